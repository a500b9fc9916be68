/** Promises 44 to 55: actions, undo and snapshots. */
public final class ActionsTest {
    private static final Check CHECK = new Check();
    private static final Class<? extends RuntimeException> INDEX = IndexOutOfBoundsException.class;
    private static final Class<? extends RuntimeException> ARGUMENT = IllegalArgumentException.class;
    private static final Class<? extends RuntimeException> STATE = IllegalStateException.class;
    private static final int[] STRANGE = {-1, Integer.MIN_VALUE, Integer.MAX_VALUE};
    private static final String TEXT = "reach 100 10;reach 50 20;season 100 50 20;years 100 50;accounts 3;loss 5;"
            + "right 0 0 20 80 returns 50 1 keeps 25;right 1 1 10 60;right 0 0 30 90;"
            + "lease 0 1 1 20 4 2;lease 1 2 0 30 5 5;option 2 0 1 60 10 3;";

    public static void main(String[] args) {
        runs();
        leases();
        releases();
        settings();
        transfersAndSwaps();
        refusedCallsChangeNothing();
        undoing();
        undoDepths();
        snapshots();
        CHECK.end();
    }

    // ---- promise 44

    private static void runs() {
        WaterExchange x = Use.of("reach 60 0;season 100 50 0;right 0 0 1 50;right 0 0 2 20;");
        CHECK.same("44: 50 and 10", x.run(1), 60);
        CHECK.same("44: 30 and 0", x.run(2), 30);
        CHECK.same("44: the time", x.count(5), 3);
        CHECK.same("44: nine months of 60", x.run(9), 540);
        CHECK.same("44: three years", x.run(36), 3 * (60 + 30 + 540));
        CHECK.same("44: one action each", x.undoDepth(), 4);
        for (int months : new int[] {0, 37, -1, Integer.MIN_VALUE, Integer.MAX_VALUE}) {
            CHECK.refuses("44: months", ARGUMENT, () -> x.run(months));
            CHECK.refuses("44: months first", ARGUMENT, () -> new WaterExchange().run(months));
        }
        CHECK.refuses("44: no reaches", STATE, () -> new WaterExchange().run(1));
    }

    // ---- promises 45 and 46

    private static void leases() {
        WaterExchange x = Use.of(TEXT);
        CHECK.same("45: the last one", x.lease(2, 1, 0, 999, 99, 36), 2);
        int[] due = {2, 1, 0, 999, 99, 36};
        for (int what = 0; what < 6; what++) {
            CHECK.same("45: field " + what, x.leaseField(2, what), due[what]);
        }
        CHECK.same("45: least", x.lease(0, 0, 1, 1, 0, 1), 3);
        for (int lease = 4; lease < 8; lease++) {
            CHECK.same("45: number", x.lease(1, 1, 1, 7, 1, lease), lease);
        }
        CHECK.refuses("45: a ninth", STATE, () -> x.lease(0, 0, 0, 1, 1, 1));
        CHECK.refuses("45: range before number", ARGUMENT, () -> x.lease(0, 0, 0, 0, 1, 1));
        CHECK.refuses("45: index before all", INDEX, () -> x.lease(0, 0, 2, 0, 1, 1));
        CHECK.same("46: months left", x.endLease(1), 5);
        CHECK.same("46: the next one moves up", x.leaseField(1, 0), 2);
        CHECK.same("46: the first one stays", x.leaseField(0, 3), 20);
        CHECK.same("46: one less", x.count(3), 7);
        CHECK.same("46: the last one", x.endLease(6), 7);
        CHECK.refuses("46: no such lease", INDEX, () -> x.endLease(6));
        x.run(1);
        CHECK.same("46: months left then", x.endLease(0), 1);
        for (int strange : STRANGE) {
            CHECK.refuses("45: right", INDEX, () -> x.lease(strange, 0, 0, 1, 1, 1));
            CHECK.refuses("45: account", INDEX, () -> x.lease(0, strange, 0, 1, 1, 1));
            CHECK.refuses("45: reach", INDEX, () -> x.lease(0, 0, strange, 1, 1, 1));
            CHECK.refuses("45: volume", ARGUMENT, () -> x.lease(0, 0, 0, strange, 1, 1));
            CHECK.refuses("45: price", ARGUMENT, () -> x.lease(0, 0, 0, 1, strange, 1));
            CHECK.refuses("45: months", ARGUMENT, () -> x.lease(0, 0, 0, 1, 1, strange));
            CHECK.refuses("46: lease", INDEX, () -> x.endLease(strange));
        }
        CHECK.refuses("45: right 3", INDEX, () -> x.lease(3, 0, 0, 1, 1, 1));
        CHECK.refuses("45: account 3", INDEX, () -> x.lease(0, 3, 0, 1, 1, 1));
        CHECK.refuses("45: reach 2", INDEX, () -> x.lease(0, 0, 2, 1, 1, 1));
        CHECK.refuses("45: volume 0", ARGUMENT, () -> x.lease(0, 0, 0, 0, 1, 1));
        CHECK.refuses("45: volume 1000", ARGUMENT, () -> x.lease(0, 0, 0, 1000, 1, 1));
        CHECK.refuses("45: price 100", ARGUMENT, () -> x.lease(0, 0, 0, 1, 100, 1));
        CHECK.refuses("45: months 0", ARGUMENT, () -> x.lease(0, 0, 0, 1, 1, 0));
        CHECK.refuses("45: months 37", ARGUMENT, () -> x.lease(0, 0, 0, 1, 1, 37));
        severalEnd();
    }

    private static void severalEnd() {
        WaterExchange x = Use.of("reach 9 0;right 0 0 1 1;lease 0 0 0 1 1 2;lease 0 0 0 2 1 1;lease 0 0 0 3 1 1;"
                + "lease 0 0 0 4 1 3;lease 0 0 0 5 1 1;");
        x.run(1);
        CHECK.same("44: three ended", x.count(3), 2);
        CHECK.same("44: the first stays", x.leaseField(0, 3) * 10 + x.leaseField(0, 5), 11);
        CHECK.same("44: the fourth moves up", x.leaseField(1, 3) * 10 + x.leaseField(1, 5), 42);
    }

    // ---- promise 47

    private static void releases() {
        WaterExchange x = Use.of("reach 100 0;reach 0 0;accounts 2;right 0 0 1 50 keeps 100;");
        x.run(1);
        CHECK.same("47: the bank then", x.release(0, 1, 20), 30);
        CHECK.same("47: in addition", x.release(0, 1, 1), 29);
        CHECK.same("47: another reach", x.release(0, 0, 9), 20);
        CHECK.same("10: released", x.reach(1, 2), 21);
        CHECK.same("10: released", x.reach(0, 2), 9);
        CHECK.same("13: the bank", x.bank(0), 20);
        CHECK.same("32: in all", x.releasedInAll(), 30);
        CHECK.refuses("47: 21 of 20", STATE, () -> x.release(0, 0, 21));
        CHECK.refuses("47: another account", STATE, () -> x.release(1, 0, 1));
        CHECK.refuses("47: 0", ARGUMENT, () -> x.release(0, 0, 0));
        CHECK.refuses("47: 0 of an empty bank", ARGUMENT, () -> x.release(1, 0, 0));
        CHECK.refuses("47: account 2", INDEX, () -> x.release(2, 0, 0));
        CHECK.refuses("47: reach 2", INDEX, () -> x.release(0, 2, 0));
        CHECK.refuses("47: greatest int", STATE, () -> x.release(0, 0, Integer.MAX_VALUE));
        CHECK.refuses("47: least int", ARGUMENT, () -> x.release(0, 0, Integer.MIN_VALUE));
        for (int strange : STRANGE) {
            CHECK.refuses("47: account", INDEX, () -> x.release(strange, 0, 1));
            CHECK.refuses("47: reach", INDEX, () -> x.release(0, strange, 1));
        }
        x.run(1);
        CHECK.same("47: comes once", x.gauge(1, 0), 21);
        CHECK.same("47: comes once", x.gauge(0, 0), 109);
        x.run(1);
        CHECK.same("47: comes once", x.gauge(1, 0), 0);
        CHECK.same("47: all of a bank", x.release(0, 0, 120), 0);
    }

    // ---- promises 48 and 49

    private static void settings() {
        WaterExchange x = Use.of(TEXT);
        CHECK.same("48: before", x.setKeep(0, 100), 25);
        CHECK.same("48: before", x.setKeep(0, 0), 100);
        CHECK.same("48: now", x.right(0, 6), 0);
        CHECK.same("48: others stay", x.setKeep(1, 7), 0);
        CHECK.same("49: before", x.setMinimum(1, 999), 20);
        CHECK.same("49: before", x.setMinimum(1, 0), 999);
        CHECK.same("49: now", x.reach(1, 1), 0);
        CHECK.same("49: others stay", x.reach(0, 1), 10);
        for (int strange : STRANGE) {
            CHECK.refuses("48: right", INDEX, () -> x.setKeep(strange, 0));
            CHECK.refuses("48: percent", ARGUMENT, () -> x.setKeep(0, strange));
            CHECK.refuses("49: reach", INDEX, () -> x.setMinimum(strange, 0));
            CHECK.refuses("49: minimum", ARGUMENT, () -> x.setMinimum(0, strange));
        }
        CHECK.refuses("48: right 3", INDEX, () -> x.setKeep(3, 101));
        CHECK.refuses("48: 101", ARGUMENT, () -> x.setKeep(2, 101));
        CHECK.refuses("49: reach 2", INDEX, () -> x.setMinimum(2, 1000));
        CHECK.refuses("49: 1000", ARGUMENT, () -> x.setMinimum(1, 1000));
    }

    // ---- promises 50 and 51

    private static void transfersAndSwaps() {
        WaterExchange x = Use.of(TEXT);
        CHECK.same("50: before", x.transfer(0, 2, 9999), 0);
        CHECK.same("50: now", x.right(0, 0), 2);
        CHECK.same("50: paid", x.balance(2), -9999);
        CHECK.same("50: got", x.balance(0), 9999);
        CHECK.same("50: to the same", x.transfer(0, 2, 5), 2);
        CHECK.same("50: nothing changes", x.balance(2), -9999);
        CHECK.same("50: free", x.transfer(0, 1, 0), 2);
        CHECK.same("50: leases stay", x.leaseField(0, 1), 1);
        CHECK.same("50: options stay", x.optionField(0, 1), 0);
        CHECK.refuses("50: right 3", INDEX, () -> x.transfer(3, 0, -1));
        CHECK.refuses("50: account 3", INDEX, () -> x.transfer(0, 3, -1));
        CHECK.refuses("50: 10000", ARGUMENT, () -> x.transfer(0, 0, 10000));
        for (int strange : STRANGE) {
            CHECK.refuses("50: right", INDEX, () -> x.transfer(strange, 0, 0));
            CHECK.refuses("50: account", INDEX, () -> x.transfer(0, strange, 0));
            CHECK.refuses("50: price", ARGUMENT, () -> x.transfer(0, 0, strange));
            CHECK.refuses("51: right", INDEX, () -> x.swap(strange, 0));
            CHECK.refuses("51: other", INDEX, () -> x.swap(0, strange));
        }
        CHECK.same("51: right 1 has 10", x.swap(0, 1), 10);
        CHECK.same("51: the other", x.right(1, 2), 20);
        CHECK.same("51: with itself", x.swap(0, 0), 10);
        CHECK.same("51: order", x.bySeniority(0), 0);
        CHECK.refuses("51: different accounts", STATE, () -> x.swap(0, 2));
        CHECK.refuses("51: right 3", INDEX, () -> x.swap(3, 0));
        CHECK.refuses("51: other 3", INDEX, () -> x.swap(0, 3));
        x.run(1);
        CHECK.same("51: the order of claims", x.claim(0, 1), 0);
    }

    // ---- a call that throws

    private static void refusedCallsChangeNothing() {
        // Each half has an object of its own: the two pictures of everything take most of an object's calls.
        for (int half = 0; half < 2; half++) {
            WaterExchange x = Use.of(TEXT + "lease 0 1 1 1 1 30;".repeat(6));
            x.run(1);
            x.save(0);
            String before = Use.allOf(x);
            Runnable[] calls = refusedCalls(x);
            for (int i = half; i < calls.length; i += 2) {
                CHECK.holds("44 to 55: refused " + i, isRefused(calls[i]));
            }
            CHECK.same("44 to 55: a call that throws changes nothing", Use.allOf(x), before);
            CHECK.holds("54: slot 0 is still there", x.save(0));
            CHECK.fails("54: slot 1 is still empty", x.save(1));
        }
    }

    private static Runnable[] refusedCalls(WaterExchange x) {
        return new Runnable[] {
            () -> x.run(0), () -> x.run(37), () -> x.lease(3, 0, 0, 1, 1, 1), () -> x.lease(0, 0, 0, 0, 1, 1),
            () -> x.lease(0, 0, 0, 1, 100, 1), () -> x.lease(0, 0, 0, 1, 1, 37), () -> x.lease(0, 0, 0, 1, 1, 1),
            () -> x.endLease(8), () -> x.release(3, 0, 1), () -> x.release(0, 2, 1), () -> x.release(0, 0, 0),
            () -> x.release(0, 0, 999), () -> x.setKeep(3, 1), () -> x.setKeep(0, 101), () -> x.setMinimum(2, 1),
            () -> x.setMinimum(0, 1000), () -> x.transfer(3, 1, 1), () -> x.transfer(0, 3, 1),
            () -> x.transfer(0, 1, 10000), () -> x.swap(0, 3), () -> x.swap(3, 0), () -> x.swap(0, 1),
            () -> x.save(2), () -> x.save(-1), () -> x.restore(2), () -> x.restore(1), () -> x.expected(0, 0),
            () -> x.injured(0, 0, 0), () -> x.balanceAfter(0, 37), () -> x.driestMonth(0),
        };
    }

    private static boolean isRefused(Runnable call) {
        try {
            call.run();
            return false;
        } catch (IndexOutOfBoundsException | IllegalArgumentException | IllegalStateException e) {
            return true;
        }
    }

    // ---- promises 52 and 53

    private static void undoing() {
        String[] names = {"run", "lease", "endLease", "release", "setKeep", "setMinimum", "transfer", "swap"};
        for (int action = 0; action < names.length; action++) {
            WaterExchange x = Use.of(TEXT);
            x.run(2);
            x.save(0);
            String before = Use.allOf(x);
            act(x, action);
            CHECK.same("53: recorded: " + names[action], x.undoDepth(), 2);
            CHECK.fails("52: something changes: " + names[action],
                    Use.allOf(x).equals(before.replace("undo 1", "undo 2")));
            CHECK.same("52: " + names[action], x.undo(), 1);
            CHECK.same("52: as before " + names[action], Use.allOf(x), before);
            CHECK.same("52: the slot stays", x.restore(0), 2);
        }
        WaterExchange x = new WaterExchange();
        CHECK.same("52: none", x.undo(), -1);
        CHECK.same("53: none", x.undoDepth(), 0);
        x = Use.of(TEXT);
        String before = Use.allOf(x);
        CHECK.same("52: none", x.undo(), -1);
        CHECK.same("52: nothing changes", Use.allOf(x), before);
        x.run(1);
        int length = x.formatRiver();
        String text = Use.formatted(x, length);
        x.undo();
        CHECK.same("52: no claims", x.claims(), 0);
        CHECK.same("52: no history", x.history(0, 0), -1);
        CHECK.same("52: no call", x.call(), -1);
        CHECK.same("52: the formatted text stays", Use.formatted(x, length), text);
    }

    private static void act(WaterExchange x, int action) {
        switch (action) {
            case 0: x.run(3); break;
            case 1: x.lease(0, 0, 0, 1, 1, 1); break;
            case 2: x.endLease(0); break;
            case 3: x.release(0, 1, 3); break;
            case 4: x.setKeep(1, 50); break;
            case 5: x.setMinimum(0, 50); break;
            case 6: x.transfer(1, 2, 50); break;
            default: x.swap(0, 2);
        }
    }

    private static void undoDepths() {
        WaterExchange x = Use.of(TEXT);
        for (int percent = 1; percent <= 12; percent++) {
            x.setKeep(1, percent);
            CHECK.same("53: at most 8", x.undoDepth(), Math.min(percent, 8));
        }
        for (int left = 7; left >= 0; left--) {
            CHECK.same("52: left", x.undo(), left);
            CHECK.same("52: as it was", x.right(1, 6), left + 4);
            CHECK.same("53: left", x.undoDepth(), left);
        }
        CHECK.same("52: no more", x.undo(), -1);
        CHECK.same("52: no more", x.right(1, 6), 4);
        x.setKeep(1, 4);
        x.setMinimum(0, 10);
        x.transfer(1, 1, 0);
        x.swap(1, 1);
        CHECK.same("53: recorded even if nothing changes", x.undoDepth(), 4);
        x.save(0);
        x.save(1);
        CHECK.same("53: save is not recorded", x.undoDepth(), 4);
        x.undo();
        x.undo();
        x.setKeep(1, 90);
        CHECK.same("53: undone ones are gone", x.undoDepth(), 3);
        x.undo();
        CHECK.same("52: before the newest", x.right(1, 6), 4);
    }

    // ---- promises 54 and 55

    private static void snapshots() {
        WaterExchange x = Use.of(TEXT);
        CHECK.refuses("55: empty", STATE, () -> x.restore(0));
        for (int slot : new int[] {2, -1, Integer.MIN_VALUE, Integer.MAX_VALUE}) {
            CHECK.refuses("54: slot", INDEX, () -> x.save(slot));
            CHECK.refuses("55: slot", INDEX, () -> x.restore(slot));
        }
        x.run(2);
        x.release(0, 0, 2);
        String before = Use.allOf(x).replace("undo 2", "undo 0");
        CHECK.fails("54: none was there", x.save(1));
        CHECK.holds("54: one was there", x.save(1));
        for (int action = 0; action < 8; action++) {
            act(x, action);
        }
        CHECK.fails("54: the other slot", x.save(0));
        CHECK.same("55: the time", x.restore(1), 2);
        CHECK.same("55: as it was", Use.allOf(x), before);
        CHECK.same("55: no undo", x.undo(), -1);
        twoSlots();
    }

    private static void twoSlots() {
        WaterExchange x = Use.of(TEXT);
        x.save(1);
        x.run(5);
        x.setMinimum(0, 77);
        x.save(0);
        String later = Use.allOf(x).replace("undo 2", "undo 0");
        CHECK.same("55: slot 1", x.restore(1), 0);
        CHECK.same("55: the minimum", x.reach(0, 1), 10);
        x.run(1);
        CHECK.same("55: it stays there", x.restore(1), 0);
        CHECK.same("55: slot 0", x.restore(0), 5);
        CHECK.same("55: as it was later", Use.allOf(x), later);
        x.save(1);
        CHECK.same("54: in place of the one before", x.restore(1), 5);
    }
}
