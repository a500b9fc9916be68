/** Promises 44 to 58: actions, undo, snapshots and formatted text; and the 512 calls of an object. */
final class ActionBoundaries {
    private static final String SMALL = "reach 50 0;reach 28 0;accounts 3;right 0 0 7 40 keeps 100;right 1 1 3 30;"
            + "right 0 0 9 5;";

    private final Boundary b;

    ActionBoundaries(Boundary b) {
        this.b = b;
    }

    void all() {
        run();
        lease();
        endLease();
        release();
        setKeep();
        setMinimum();
        transfer();
        swap();
        undoable();
        recorded();
        lastEight();
        undone();
        undoOfNothing();
        slots();
        save();
        restore();
        loadEmptiesSlots();
        formatClaims();
        formatRiver();
        formattedByte();
        lastCall();
        greatestSums();
    }

    // ---- promises 44 to 51

    private void run() {
        b.promise(44, "months: 1 to 36");
        WaterExchange x = Use.of("reach 9 0;right 0 0 1 5;");
        b.same("1 month", x.run(1), 5);
        b.same("the time", x.count(5), 1);
        b.same("36 months", x.run(36), 36 * 5);
        b.same("the time", x.count(5), 37);
        b.promise(44, "Returns the sum of what all claims got.");
        b.same("of all rights and months", Use.of(SMALL + "lease 0 1 0 9 0 9;").run(2), 2 * 75);
        b.same("nothing", Use.of("reach 0 0;right 0 0 1 5;").run(36), 0);
        b.promise(44, "Throws IllegalArgumentException if months is out of range");
        for (int months : new int[] {0, 37, -1, Integer.MIN_VALUE, Integer.MAX_VALUE}) {
            b.noArgument(months + " months", () -> x.run(months));
        }
        b.same("the time", x.count(5), 37);
        b.promise(44, "Throws IllegalStateException if there are no reaches");
        b.noState("a new object", () -> new WaterExchange().run(1));
        b.noState("a text without them", () -> Use.of("accounts 2;loss 3;").run(36));
        b.same("no rights are needed", Use.of("reach 9 9;").run(36), 0);
    }

    private void lease() {
        b.promise(45, "Makes a lease, as the last one.");
        WaterExchange x = Use.of(SMALL);
        for (int lease = 0; lease < 8; lease++) {
            b.same("its number", x.lease(lease % 3, 1, 0, lease + 1, 2, 36), lease);
            b.same("its volume", x.leaseField(lease, 3), lease + 1);
        }
        b.promise(45, "Throws IllegalStateException if there are 8 leases");
        b.noState("a ninth one", () -> x.lease(0, 0, 0, 1, 0, 1));
        b.same("still 8", x.count(3), 8);
        x.endLease(0);
        b.same("7 are few enough", x.lease(0, 0, 0, 1, 0, 1), 7);
        b.noState("a ninth one again", () -> x.lease(0, 0, 0, 1, 0, 1));
        x.run(1);
        b.same("the last month of one was run", x.lease(0, 0, 0, 1, 0, 1), 7);
        b.promise(45, "volume: 1 to 999");
        WaterExchange y = Use.of(SMALL);
        b.same("least", y.leaseField(y.lease(0, 0, 0, 1, 0, 1), 3), 1);
        b.same("greatest", y.leaseField(y.lease(0, 0, 0, 999, 0, 1), 3), 999);
        b.promise(45, "price: 0 to 99");
        b.same("least", y.leaseField(y.lease(0, 0, 0, 1, 0, 1), 4), 0);
        b.same("greatest", y.leaseField(y.lease(0, 0, 0, 1, 99, 1), 4), 99);
        b.promise(45, "months: 1 to 36");
        b.same("least", y.leaseField(y.lease(0, 0, 0, 1, 0, 1), 5), 1);
        b.same("greatest", y.leaseField(y.lease(0, 0, 0, 1, 0, 36), 5), 36);
        b.promise(45, "Throws IllegalArgumentException if volume, price or months is out of range");
        for (int wrong : new int[] {0, 1000, -1, Integer.MIN_VALUE, Integer.MAX_VALUE}) {
            b.noArgument("volume " + wrong, () -> y.lease(0, 0, 0, wrong, 0, 1));
        }
        for (int wrong : new int[] {-1, 100, Integer.MIN_VALUE, Integer.MAX_VALUE}) {
            b.noArgument("price " + wrong, () -> y.lease(0, 0, 0, 1, wrong, 1));
        }
        for (int wrong : new int[] {0, 37, -1, Integer.MIN_VALUE, Integer.MAX_VALUE}) {
            b.noArgument("months " + wrong, () -> y.lease(0, 0, 0, 1, 0, wrong));
        }
        b.same("none was made", y.count(3), 6);
        b.same("none was recorded", y.undoDepth(), 6);
    }

    private void endLease() {
        b.promise(46, "Ends a lease; the numbers of those behind it decrease by 1.");
        String five = "lease 0 0 0 1 0 11;lease 0 0 0 2 0 12;lease 0 0 0 3 0 13;lease 0 0 0 4 0 14;lease 0 0 0 5 0 15;";
        for (int lease = 0; lease < 5; lease++) {
            WaterExchange x = Use.of(SMALL + five);
            b.same("the months that it had left", x.endLease(lease), 11 + lease);
            b.same("one less", x.count(3), 4);
            for (int i = 0; i < 4; i++) {
                b.same("volume of " + i, x.leaseField(i, 3), i < lease ? i + 1 : i + 2);
            }
            b.noNumber("no lease 4 any more", () -> x.endLease(4));
        }
        WaterExchange y = Use.of(SMALL + "lease 0 0 0 1 0 1;");
        b.same("the last one", y.endLease(0), 1);
        b.same("none is left", y.count(3), 0);
        b.noNumber("none is left", () -> y.endLease(0));
    }

    private void release() {
        b.promise(47, "volume: 1 or more");
        WaterExchange x = Use.of(SMALL);
        x.run(3);
        b.same("1", x.release(0, 1, 1), 119);
        b.promise(47, "it comes into it in the next month that is run, in addition to what was released already.");
        b.same("another reach", x.release(0, 0, 2), 117);
        b.same("in addition", x.release(0, 1, 100), 17);
        b.same("reach 0", x.reach(0, 2), 2);
        b.same("reach 1", x.reach(1, 2), 101);
        b.promise(47, "Throws IllegalStateException if the bank is less than volume");
        b.noState("18 of 17", () -> x.release(0, 0, 18));
        b.noState("greatest int", () -> x.release(0, 0, Integer.MAX_VALUE));
        b.noState("1 of the empty bank of another", () -> x.release(1, 0, 1));
        b.same("the bank stays", x.bank(0), 17);
        b.same("all of it", x.release(0, 0, 17), 0);
        b.noState("1 of 0", () -> x.release(0, 0, 1));
        b.promise(47, "Throws IllegalArgumentException if volume is less than 1");
        for (int volume : new int[] {0, -1, Integer.MIN_VALUE}) {
            b.noArgument("volume " + volume, () -> x.release(0, 0, volume));
            b.noArgument("of another, volume " + volume, () -> x.release(1, 0, volume));
        }
        b.same("none of these was recorded", x.undoDepth(), 5);
    }

    private void setKeep() {
        b.promise(48, "percent: 0 to 100");
        WaterExchange x = Use.of(SMALL);
        b.same("before", x.setKeep(0, 0), 100);
        b.same("least", x.right(0, 6), 0);
        b.same("before", x.setKeep(0, 100), 0);
        b.same("greatest", x.right(0, 6), 100);
        b.promise(48, "Throws IllegalArgumentException if percent is out of range");
        for (int percent : new int[] {-1, 101, Integer.MIN_VALUE, Integer.MAX_VALUE}) {
            b.noArgument("percent " + percent, () -> x.setKeep(0, percent));
        }
        b.same("it stays", x.right(0, 6), 100);
    }

    private void setMinimum() {
        b.promise(49, "minimum: 0 to 999");
        WaterExchange x = Use.of(SMALL);
        b.same("before", x.setMinimum(1, 999), 0);
        b.same("greatest", x.reach(1, 1), 999);
        b.same("before", x.setMinimum(1, 0), 999);
        b.same("least", x.reach(1, 1), 0);
        b.promise(49, "Throws IllegalArgumentException if minimum is out of range");
        for (int minimum : new int[] {-1, 1000, Integer.MIN_VALUE, Integer.MAX_VALUE}) {
            b.noArgument("minimum " + minimum, () -> x.setMinimum(1, minimum));
        }
        b.same("it stays", x.reach(1, 1), 0);
    }

    private void transfer() {
        b.promise(50, "price: 0 to 9999");
        WaterExchange x = Use.of(SMALL + "lease 0 1 0 9 0 9;option 0 2 0 9 0 9;");
        b.same("least", x.transfer(0, 1, 0), 0);
        b.same("nothing is paid", x.balance(0), 0);
        b.same("greatest", x.transfer(0, 2, 9999), 1);
        b.same("paid", x.balance(2), -9999);
        b.same("got", x.balance(1), 9999);
        b.promise(50, "Throws IllegalArgumentException if price is out of range");
        for (int price : new int[] {-1, 10000, Integer.MIN_VALUE, Integer.MAX_VALUE}) {
            b.noArgument("price " + price, () -> x.transfer(0, 1, price));
        }
        b.same("it stays", x.right(0, 0), 2);
        b.promise(50, "which pays a price to the one before (also if both are the same). Leases and options stay.");
        b.same("the account before", x.transfer(0, 2, 9999), 2);
        b.same("the same balance", x.balance(2), -9999);
        b.same("the lease", x.leaseField(0, 0) * 10 + x.leaseField(0, 1), 1);
        b.same("the option", x.optionField(0, 0) * 10 + x.optionField(0, 1), 2);
    }

    private void swap() {
        b.promise(51, "Swaps the priorities of two rights of the same account.");
        WaterExchange x = Use.of(SMALL);
        b.same("the first one has that of the other", x.swap(0, 2), 9);
        b.same("the other has that of the first", x.right(2, 2), 7);
        b.same("the other way round", x.swap(2, 0), 9);
        b.same("with itself", x.swap(1, 1), 3);
        b.same("order", x.bySeniority(0) * 100 + x.bySeniority(1) * 10 + x.bySeniority(2), 102);
        b.promise(51, "Throws IllegalStateException if they belong to different accounts");
        b.noState("0 and 1", () -> x.swap(0, 1));
        b.noState("1 and 0", () -> x.swap(1, 0));
        b.same("they stay", x.right(0, 2), 7);
        x.transfer(1, 0, 0);
        b.same("the same account now", x.swap(0, 1), 3);
    }

    // ---- undo

    private void undoable() {
        b.terms("The methods run, lease, endLease, release, setKeep, setMinimum, transfer and swap are undoable actions.");
        for (int action = 0; action < 8; action++) {
            WaterExchange x = Use.of(SMALL + "lease 0 1 1 9 9 3;");
            x.run(1);
            act(x, action);
            b.same("action " + action, x.undoDepth(), 2);
        }
        b.promise(52, "Undoes the latest recorded action.");
        WaterExchange y = Use.of(SMALL);
        y.setMinimum(0, 5);
        y.setKeep(0, 6);
        y.undo();
        b.same("the latest one", y.right(0, 6), 100);
        b.same("not the one before", y.reach(0, 1), 5);
        y.undo();
        b.same("then the one before", y.reach(0, 1), 0);
    }

    private void recorded() {
        b.terms("A successful call of one of them is recorded even if it changes nothing.");
        WaterExchange x = Use.of(SMALL + "lease 0 0 0 1 0 9;");
        x.setKeep(0, 100);
        x.setMinimum(0, 0);
        x.transfer(0, 0, 9);
        x.swap(2, 2);
        b.same("four that change nothing", x.undoDepth(), 4);
        x.run(1);
        x.lease(0, 0, 0, 1, 0, 1);
        x.endLease(1);
        x.release(0, 0, 1);
        b.same("and four more", x.undoDepth(), 8);
        WaterExchange y = Use.of(SMALL);
        for (Runnable refused : new Runnable[] {() -> y.run(0), () -> y.lease(0, 0, 0, 0, 0, 1), () -> y.endLease(0),
            () -> y.release(0, 0, 1), () -> y.setKeep(0, 101), () -> y.setMinimum(0, -1), () -> y.transfer(0, 0, -1),
            () -> y.swap(0, 1), () -> y.restore(0), () -> y.load()}) {
            try {
                refused.run();
            } catch (IllegalArgumentException | IllegalStateException | IndexOutOfBoundsException e) {
                b.same("one that throws is not", y.undoDepth(), 0);
            }
        }
        WaterExchange z = Use.of(SMALL);
        z.save(0);
        z.expected(0, 36);
        z.formatRiver();
        b.same("other calls are not", z.undoDepth(), 0);
    }

    private void lastEight() {
        b.terms("The last 8 recorded actions can be undone.");
        WaterExchange x = Use.of(SMALL);
        for (int percent = 1; percent <= 20; percent++) {
            x.setKeep(0, percent);
            b.same("depth", x.undoDepth(), Math.min(percent, 8));
        }
        for (int left = 7; left >= 0; left--) {
            b.same("left", x.undo(), left);
            b.same("as it was", x.right(0, 6), 12 + left);
        }
        b.same("the ninth last one cannot be undone", x.undo(), -1);
        b.same("it stays", x.right(0, 6), 12);
        for (int percent = 50; percent < 59; percent++) {
            x.setKeep(0, percent);
        }
        b.same("8 again", x.undoDepth(), 8);
        x.undo();
        x.undo();
        b.same("two less", x.right(0, 6), 56);
        x.setKeep(0, 99);
        b.promise(53, "Returns the number of actions that can be undone.");
        b.same("one more", x.undoDepth(), 7);
        x.undo();
        b.same("what was undone is gone", x.right(0, 6), 56);
        b.same("a new object", new WaterExchange().undoDepth(), 0);
        b.same("a new text", Use.of(SMALL).undoDepth(), 0);
        b.same("one less", x.undoDepth(), 6);
    }

    private static void act(WaterExchange x, int action) {
        switch (action) {
            case 0: x.run(36); break;
            case 1: x.lease(0, 2, 0, 40, 99, 36); break;
            case 2: x.endLease(0); break;
            case 3: x.release(0, 1, x.bank(0)); break;
            case 4: x.setKeep(0, 0); break;
            case 5: x.setMinimum(1, 999); break;
            case 6: x.transfer(0, 2, 9999); break;
            default: x.swap(0, 2);
        }
    }

    private void undone() {
        b.terms("Undoing an action restores everything that actions can change as it was before the action; "
                + "the slots stay.");
        String text = SMALL + "loss 9;lease 0 1 1 9 9 3;option 1 2 0 200 9 9;";
        for (int action = 0; action < 8; action++) {
            WaterExchange x = Use.of(text);
            x.run(2);
            x.release(0, 0, 5);
            x.save(0);
            String before = Use.allOf(x);
            act(x, action);
            x.save(1);
            b.same("undo of " + action, x.undo(), 2);
            b.same("everything, action " + action, Use.allOf(x), before);
            b.same("order, action " + action, x.bySeniority(1), 0);
            b.same("the slot before, action " + action, x.restore(0), 2);
            b.same("the slot behind, action " + action, x.restore(1), action == 0 ? 38 : 2);
        }
        WaterExchange y = Use.of(text);
        y.run(36);
        y.undo();
        b.same("no month", y.history(0, 0) + y.call() + y.claims(), -2);
        b.same("the lease that had ended", y.leaseField(0, 5), 3);
    }

    private void undoOfNothing() {
        b.promise(52, "Returns the number of actions that can still be undone; NONE, and nothing changes, "
                + "if there was none.");
        b.same("a new object", new WaterExchange().undo(), -1);
        WaterExchange x = Use.of(SMALL);
        x.setKeep(0, 9);
        b.same("the only one", x.undo(), 0);
        String before = Use.allOf(x);
        b.same("none", x.undo(), -1);
        b.same("none again", x.undo(), -1);
        b.same("nothing changes", Use.allOf(x), before);
        b.same("the depth", x.undoDepth(), 0);
    }

    // ---- snapshots

    private void slots() {
        b.terms("There are two slots, 0 and 1, for snapshots of everything that actions can change.");
        WaterExchange x = Use.of(SMALL + "loss 9;lease 0 1 1 9 9 30;option 1 2 0 200 9 9;");
        x.run(2);
        x.release(0, 1, 3);
        x.save(0);
        String first = Use.allOf(x).replace("undo 2", "undo 0");
        for (int action = 7; action >= 0; action--) {
            act(x, action);
        }
        x.save(1);
        b.same("slot 0", x.restore(0), 2);
        b.same("everything", Use.allOf(x), first);
        b.same("order", x.bySeniority(1), 0);
        b.same("slot 1 is another", x.restore(1), 38);
        b.same("order", x.bySeniority(1), 2);
        for (int slot : new int[] {-1, 2, 3, Integer.MIN_VALUE, Integer.MAX_VALUE}) {
            b.noNumber("no slot to save", () -> x.save(slot));
            b.noNumber("no slot to restore", () -> x.restore(slot));
        }
    }

    private void save() {
        b.promise(54, "Saves a snapshot in a slot, in place of one that is there.");
        WaterExchange x = Use.of(SMALL);
        x.save(1);
        x.run(3);
        x.save(1);
        x.run(4);
        b.same("the newer one", x.restore(1), 3);
        b.promise(54, "Returns true if there was one.");
        b.fails("none in slot 0", x.save(0));
        b.holds("one in slot 0", x.save(0));
        b.holds("one in slot 1", x.save(1));
        WaterExchange y = new WaterExchange();
        b.fails("a new object", y.save(0));
        b.fails("the other slot", y.save(1));
        b.same("a new object's time", y.restore(0), 0);
    }

    private void restore() {
        b.promise(55, "Restores the snapshot of a slot, which stays there; no action can be undone then.");
        WaterExchange x = Use.of(SMALL);
        x.run(5);
        x.save(0);
        x.run(7);
        b.same("the time then", x.restore(0), 5);
        b.same("no undo", x.undoDepth(), 0);
        b.same("no undo", x.undo(), -1);
        x.setKeep(0, 1);
        b.same("an action behind it", x.undoDepth(), 1);
        b.same("it stays there", x.restore(0), 5);
        b.same("as it was saved", x.right(0, 6), 100);
        b.same("no undo", x.undo(), -1);
        b.holds("still there", x.save(0));
        b.promise(55, "Throws IllegalStateException if the slot is empty");
        x.setKeep(0, 2);
        b.noState("slot 1", () -> x.restore(1));
        b.same("undo stays", x.undoDepth(), 1);
        b.noState("a new object", () -> new WaterExchange().restore(0));
        b.noState("a new object", () -> new WaterExchange().restore(1));
    }

    private void loadEmptiesSlots() {
        b.terms("A successful load empties both slots.");
        WaterExchange x = Use.of(SMALL);
        x.save(0);
        x.save(1);
        Use.put(x, "x");
        b.noArgument("one that throws", x::load);
        b.holds("does not", x.save(0) && x.save(1));
        x.load();
        b.noState("slot 0", () -> x.restore(0));
        b.noState("slot 1", () -> x.restore(1));
        b.fails("slot 0", x.save(0));
        b.fails("slot 1", x.save(1));
    }

    // ---- promises 56 to 58

    private void formatClaims() {
        b.promise(56, "and what it wanted, with a space between two claims. The text replaces the previous formatted text.");
        WaterExchange x = Use.of("reach 30 0;years 50;right 0 0 5 40;right 0 0 4 10;lease 1 0 0 4 0 9;option 0 0 0 51 0 0;");
        b.same("no month", x.formatClaims(), 0);
        x.run(1);
        b.same("all kinds", Use.claimsOf(x), "l1:4/4 r1:6/6 o0:5/40");
        b.same("length", x.formatClaims(), 21);
        b.same("no space behind the last one", x.formattedByte(20), '0');
        b.same("a month without rights", Use.claimsOf(Use.of("reach 9 9;")), "");
        WaterExchange one = Use.of("reach 999 0;right 0 0 5 999;");
        one.run(1);
        b.same("one claim", Use.claimsOf(one), "r0:999/999");
        one.setMinimum(0, 999);
        one.run(1);
        b.same("a shorter one replaces it", Use.claimsOf(one), "r0:0/999");
        b.same("nothing behind it", one.formattedByte(8), -1);
    }

    private void formatRiver() {
        b.promise(57, "for each reach the flow at its gauge after all claims of the latest month (0 if there was none), "
                + "with \">\" between two reaches. The text replaces the previous formatted text.");
        b.same("no reaches", new WaterExchange().formatRiver(), 0);
        WaterExchange x = Use.of("reach 50 0;reach 8 0;reach 0 0;right 0 1 3 58;");
        b.same("no month", Use.riverOf(x), "0>0>0");
        x.run(1);
        b.same("a month", Use.riverOf(x), "50>0>0");
        x.formatClaims();
        b.same("length", x.formatRiver(), 6);
        b.same("nothing of the longer one is left", x.formattedByte(6), -1);
        b.same("one reach", Use.riverOf(Use.of("reach 50 0;")), "0");
    }

    private void formattedByte() {
        b.promise(58, "Returns the byte at that offset; NONE if there is none.");
        WaterExchange x = Use.of("reach 50 0;right 0 0 3 20;");
        b.same("no text yet", x.formattedByte(0), -1);
        x.run(1);
        int length = x.formatClaims();
        String due = "r0:20/20";
        for (int offset = 0; offset < length; offset++) {
            b.same("offset " + offset, x.formattedByte(offset), due.charAt(offset));
        }
        for (int offset : new int[] {-1, length, length + 1, Integer.MIN_VALUE, Integer.MAX_VALUE}) {
            b.same("offset " + offset, x.formattedByte(offset), -1);
        }
        x.undo();
        b.same("undo leaves it", Use.formatted(x, length), due);
        x.formatClaims();
        b.same("an empty text", x.formattedByte(0), -1);
    }

    // ---- 512 calls

    private void lastCall() {
        b.whatItIs("An object is used for at most 512 calls after it has been made");
        for (int kind = 0; kind < 4; kind++) {
            WaterExchange x = new WaterExchange();
            Use.put(x, SMALL);
            x.load();
            // 5 appends, truncate and load are 7 calls; 504 more, and the last one.
            for (int call = 0; call < 504; call++) {
                repeat(x, kind, call);
            }
            b.same("the 512th call, kind " + kind, x.run(1), 75);
        }
    }

    private static void repeat(WaterExchange x, int kind, int call) {
        switch (kind) {
            case 0: x.setKeep(0, call % 101); break;
            case 1: x.save(call % 2); break;
            case 2: x.injured(0, 0, call + 1); break;
            default: x.formatRiver();
        }
    }

    private void greatestSums() {
        b.whatItIs("An object is used for at most 512 calls after it has been made; what later calls answer is free.");
        StringBuilder text = new StringBuilder("reach 999 0;".repeat(3) + "season 200");
        text.append(" 200".repeat(11)).append(";years 200;accounts 2;");
        for (int i = 0; i < 10; i++) {
            text.append("right 0 0 ").append(i + 1).append(" 999 keeps 100;");
        }
        WaterExchange x = Use.of(text.toString());
        for (int call = 0; call < 440; call++) {
            x.run(36);
        }
        int months = 440 * 36;
        b.same("the time", x.count(5), months);
        b.same("banked", x.bankedInAll(), months * 3996);
        b.same("the bank", x.bank(0), months * 3996);
        b.same("of the first right", x.right(0, 7), months * 999);
        b.same("cut months of the last right", x.right(9, 9), months);
        b.same("all of the bank", x.release(0, 2, months * 3996), 0);
        b.same("it comes", x.coming(2), months * 3996 + 3996);
        b.same("free is at most 999", x.free(2), 999);
        b.same("it flows", x.run(1), 3996);
        b.same("out", x.outflow(), months * 3996 + 2 * 3996);
        b.holds("right", x.areAccountsRight());
        b.holds("balanced", x.isBalanced());
    }
}
