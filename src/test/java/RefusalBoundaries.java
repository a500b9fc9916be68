import java.util.ArrayList;
import java.util.List;

/** The term of exceptions, over all calls that throw. */
final class RefusalBoundaries {
    // 2 reaches, 3 accounts, 4 rights, 5 leases, 1 option, 9 claims of the latest month, a bank and one slot.
    private static final String TEXT = "reach 99 9;reach 50 5;accounts 3;loss 9;right 0 0 5 40 keeps 50;right 1 1 6 30;"
            + "right 0 0 7 20 returns 50 1;right 2 1 8 10;" + "lease 1 0 0 3 9 9;".repeat(5) + "option 1 2 0 1 9 9;";

    private final Boundary b;

    RefusalBoundaries(Boundary b) {
        this.b = b;
    }

    void all() {
        noSuchNumber();
        numbersOfOtherThings();
        numbersThatEnd();
        firstListed();
        nothingChanges();
        loadEmptiesTheBuffer();
    }

    private static WaterExchange made() {
        WaterExchange x = Use.of(TEXT);
        x.run(1);
        x.save(0);
        return x;
    }

    private interface Call {
        void with(WaterExchange x, int number);
    }

    // How many numbers there are, and a call with a number of these.
    private record Numbered(String name, int end, Call call) {
    }

    private static List<Numbered> reachCalls() {
        return List.of(
            new Numbered("reach", 2, (x, i) -> x.reach(i, 0)), new Numbered("coming", 2, (x, i) -> x.coming(i)),
            new Numbered("gauge", 2, (x, i) -> x.gauge(i, 0)), new Numbered("free", 2, (x, i) -> x.free(i)),
            new Numbered("injured, reach", 2, (x, i) -> x.injured(0, i, 1)),
            new Numbered("lease, reach", 2, (x, i) -> x.lease(0, 0, i, 1, 1, 1)),
            new Numbered("release, reach", 2, (x, i) -> x.release(0, i, 1)),
            new Numbered("setMinimum", 2, (x, i) -> x.setMinimum(i, 0)));
    }

    private static List<Numbered> accountCalls() {
        return List.of(
            new Numbered("balance", 3, (x, i) -> x.balance(i)), new Numbered("bank", 3, (x, i) -> x.bank(i)),
            new Numbered("got", 3, (x, i) -> x.got(i)), new Numbered("balanceAfter", 3, (x, i) -> x.balanceAfter(i, 1)),
            new Numbered("lease, account", 3, (x, i) -> x.lease(0, i, 0, 1, 1, 1)),
            new Numbered("transfer, account", 3, (x, i) -> x.transfer(0, i, 0)));
    }

    private static List<Numbered> rightCalls() {
        return List.of(
            new Numbered("right", 4, (x, i) -> x.right(i, 0)), new Numbered("earned", 4, (x, i) -> x.earned(i)),
            new Numbered("expected", 4, (x, i) -> x.expected(i, 1)),
            new Numbered("cutMonths", 4, (x, i) -> x.cutMonths(i, 1)),
            new Numbered("bestReach", 4, (x, i) -> x.bestReach(i)),
            new Numbered("injured", 4, (x, i) -> x.injured(i, 0, 1)),
            new Numbered("blocked", 4, (x, i) -> x.blocked(i)),
            new Numbered("lease, right", 4, (x, i) -> x.lease(i, 0, 0, 1, 1, 1)),
            new Numbered("setKeep", 4, (x, i) -> x.setKeep(i, 0)),
            new Numbered("transfer, right", 4, (x, i) -> x.transfer(i, 0, 0)));
    }

    private static List<Numbered> otherCalls() {
        return List.of(
            new Numbered("leaseField", 5, (x, i) -> x.leaseField(i, 0)),
            new Numbered("endLease", 5, (x, i) -> x.endLease(i)),
            new Numbered("optionField", 1, (x, i) -> x.optionField(i, 0)),
            new Numbered("claim", 9, (x, i) -> x.claim(i, 0)),
            new Numbered("save", 2, (x, i) -> x.save(i)));
    }

    private static List<Numbered> allCalls() {
        List<Numbered> all = new ArrayList<>(reachCalls());
        all.addAll(accountCalls());
        all.addAll(rightCalls());
        all.addAll(otherCalls());
        return all;
    }

    private void noSuchNumber() {
        b.terms("IndexOutOfBoundsException is thrown if a parameter named reach, account, right, other (a right), "
                + "lease, option, claim or slot is not the number of an existing one.");
        for (Numbered n : allCalls()) {
            WaterExchange x = made();
            for (int wrong : new int[] {-1, n.end(), n.end() + 1, 1000, Integer.MIN_VALUE, Integer.MAX_VALUE}) {
                b.noNumber(n.name() + " " + wrong, () -> n.call().with(x, wrong));
            }
            for (int number = 0; number < n.end(); number++) {
                WaterExchange y = made();
                n.call().with(y, number);
                b.holds(n.name() + " " + number, true);
            }
            if (!n.name().equals("save") && n.end() != 3) {
                b.noNumber("a new object has none: " + n.name(), () -> n.call().with(new WaterExchange(), 0));
            }
        }
        WaterExchange x = made();
        x.release(0, 0, 1);
        b.same("the accounts with an empty bank are numbers too", x.bank(2), 0);
        for (int wrong : new int[] {-1, 3, 4, Integer.MIN_VALUE, Integer.MAX_VALUE}) {
            b.noNumber("release, account " + wrong, () -> x.release(wrong, 0, 1));
        }
        for (int wrong : new int[] {-1, 4, 5, Integer.MIN_VALUE, Integer.MAX_VALUE}) {
            b.noNumber("swap, right " + wrong, () -> x.swap(wrong, 0));
            b.noNumber("swap, other " + wrong, () -> x.swap(0, wrong));
            b.noNumber("swap, both " + wrong, () -> x.swap(wrong, wrong));
        }
        for (int wrong : new int[] {-1, 2, Integer.MIN_VALUE, Integer.MAX_VALUE}) {
            b.noNumber("restore " + wrong, () -> x.restore(wrong));
        }
    }

    // Each kind of number has its own limit; what is none of a reach may be one of an account.
    private void numbersOfOtherThings() {
        b.terms("is not the number of an existing one.");
        WaterExchange x = made();
        x.balance(2);
        b.noNumber("2 is an account, no reach", () -> x.reach(2, 0));
        x.right(3, 0);
        b.noNumber("3 is a right, no account", () -> x.balance(3));
        x.leaseField(4, 0);
        b.noNumber("4 is a lease, no right", () -> x.right(4, 0));
        x.claim(8, 0);
        b.noNumber("8 is a claim, no lease", () -> x.leaseField(8, 0));
        b.noNumber("1 is a lease, no option", () -> x.optionField(1, 0));
        b.noNumber("lease: reach and account are not interchanged", () -> x.lease(0, 0, 2, 1, 1, 1));
        b.noNumber("release: reach and account are not interchanged", () -> x.release(0, 2, 1));
        b.noNumber("injured: reach and right are not interchanged", () -> x.injured(0, 3, 1));
        b.noNumber("transfer: account and right are not interchanged", () -> x.transfer(0, 3, 1));
        x.transfer(3, 2, 1);
        b.same("right 3 to account 2", x.right(3, 0), 2);
    }

    private void numbersThatEnd() {
        b.terms("the number of an existing one.");
        WaterExchange x = made();
        x.endLease(0);
        b.noNumber("lease 4 of 4", () -> x.leaseField(4, 0));
        x.undo();
        b.same("lease 4 of 5 again", x.leaseField(4, 3), 3);
        x.run(9);
        b.noNumber("all have ended", () -> x.endLease(0));
        b.noNumber("claim 4 of 4", () -> x.claim(4, 0));
        Use.put(x, "reach 1 1;");
        x.load();
        b.noNumber("right 0 is gone", () -> x.right(0, 0));
        b.noNumber("reach 1 is gone", () -> x.gauge(1, 0));
        b.noNumber("account 1 is gone", () -> x.balance(1));
        b.noNumber("option 0 is gone", () -> x.optionField(0, 0));
        b.noNumber("claim 0 is gone", () -> x.claim(0, 0));
    }

    private void firstListed() {
        b.terms("When several exceptions apply, the one that is listed first in the method's throws clause is thrown.");
        WaterExchange x = Use.of(TEXT + "lease 1 0 0 3 9 9;".repeat(3));
        WaterExchange none = new WaterExchange();
        b.noNumber("reach", () -> x.reach(2, 3));
        b.noNumber("right", () -> x.right(4, 10));
        b.noNumber("leaseField", () -> x.leaseField(8, 6));
        b.noNumber("optionField", () -> x.optionField(1, 7));
        b.noNumber("claim", () -> x.claim(0, 8));
        b.noNumber("gauge", () -> x.gauge(2, 5));
        b.noNumber("expected", () -> x.expected(4, 0));
        b.noNumber("cutMonths", () -> x.cutMonths(4, 37));
        b.noNumber("balanceAfter", () -> x.balanceAfter(3, 0));
        b.noArgument("driestMonth", () -> none.driestMonth(0));
        b.noNumber("injured, right", () -> x.injured(4, 0, 0));
        b.noNumber("injured, reach", () -> x.injured(0, 2, 1000));
        b.noArgument("run", () -> none.run(37));
        b.noNumber("lease, right", () -> x.lease(4, 0, 0, 0, 100, 37));
        b.noNumber("lease, account", () -> x.lease(0, 3, 0, 0, 100, 37));
        b.noNumber("lease, reach", () -> x.lease(0, 0, 2, 0, 100, 37));
        b.noNumber("lease, reach, of 8", () -> x.lease(0, 0, 2, 1, 1, 1));
        b.noArgument("lease, volume, of 8", () -> x.lease(0, 0, 0, 0, 1, 1));
        b.noArgument("lease, price, of 8", () -> x.lease(0, 0, 0, 1, 100, 1));
        b.noArgument("lease, months, of 8", () -> x.lease(0, 0, 0, 1, 1, 37));
        b.noState("lease, of 8", () -> x.lease(0, 0, 0, 1, 1, 1));
        b.noNumber("release, account", () -> x.release(3, 0, 0));
        b.noNumber("release, reach", () -> x.release(0, 2, 0));
        b.noNumber("release, reach of an empty bank", () -> x.release(0, 2, 1));
        b.noArgument("release, volume of an empty bank", () -> x.release(0, 0, 0));
        b.noState("release of an empty bank", () -> x.release(0, 0, 1));
        b.noNumber("setKeep", () -> x.setKeep(4, 101));
        b.noNumber("setMinimum", () -> x.setMinimum(2, 1000));
        b.noNumber("transfer, right", () -> x.transfer(4, 0, 10000));
        b.noNumber("transfer, account", () -> x.transfer(0, 3, 10000));
        b.noNumber("swap, right", () -> x.swap(4, 0));
        b.noNumber("swap, other", () -> x.swap(1, 4));
        b.noNumber("restore", () -> x.restore(2));
        b.noElement("history", () -> none.history(-1, 4));
    }

    private static List<Call> refusedCalls() {
        List<Call> calls = new ArrayList<>();
        for (Numbered n : allCalls()) {
            calls.add((x, i) -> n.call().with(x, n.end()));
        }
        calls.addAll(List.of((x, i) -> x.release(3, 0, 1), (x, i) -> x.swap(4, 0), (x, i) -> x.swap(0, 4),
            (x, i) -> x.restore(2), (x, i) -> x.restore(1), (x, i) -> x.swap(0, 1), (x, i) -> x.run(0)));
        calls.addAll(List.of((x, i) -> x.run(37), (x, i) -> x.lease(0, 0, 0, 0, 1, 1),
            (x, i) -> x.lease(0, 0, 0, 1000, 1, 1), (x, i) -> x.lease(0, 0, 0, 1, 100, 1),
            (x, i) -> x.lease(0, 0, 0, 1, 1, 37), (x, i) -> x.release(0, 0, 0), (x, i) -> x.release(0, 0, 9999)));
        calls.addAll(List.of((x, i) -> x.setKeep(0, 101), (x, i) -> x.setKeep(0, -1), (x, i) -> x.setMinimum(0, 1000),
            (x, i) -> x.setMinimum(0, -1), (x, i) -> x.transfer(0, 1, 10000), (x, i) -> x.transfer(0, 1, -1)));
        calls.addAll(List.of((x, i) -> x.expected(0, 37), (x, i) -> x.cutMonths(0, 0), (x, i) -> x.balanceAfter(0, 37),
            (x, i) -> x.driestMonth(37), (x, i) -> x.injured(0, 0, 1000), (x, i) -> x.count(8), (x, i) -> x.season(12)));
        calls.addAll(List.of((x, i) -> x.yearPercent(-1), (x, i) -> x.reach(0, 3), (x, i) -> x.right(0, 10),
            (x, i) -> x.leaseField(0, 6), (x, i) -> x.optionField(0, 7), (x, i) -> x.claim(0, 8),
            (x, i) -> x.gauge(0, 5), (x, i) -> x.history(0, 4)));
        return calls;
    }

    private void nothingChanges() {
        b.terms("A call that throws changes nothing");
        // A picture of everything takes a third of an object's calls, so that each object takes some of the refusals.
        List<Call> calls = refusedCalls();
        for (int start = 0; start < calls.size(); start += 10) {
            WaterExchange x = made();
            x.append(0x6c6f7373, 0x20373b20, 0x20202020, 0x20202020, 0x20202020);
            int length = x.formatRiver();
            String text = Use.formatted(x, length);
            String before = Use.allOf(x);
            for (int i = start; i < Math.min(start + 10, calls.size()); i++) {
                Call call = calls.get(i);
                boolean thrown = false;
                try {
                    call.with(x, 0);
                } catch (RuntimeException e) {
                    thrown = true;
                }
                b.holds("call " + i + " throws", thrown);
            }
            b.same("everything", Use.allOf(x), before);
            b.same("the formatted text", Use.formatted(x, length), text);
            b.same("its end", x.formattedByte(length), -1);
            b.fails("slot 1 is still empty", x.save(1));
            b.holds("slot 0 is still there", x.save(0));
            b.holds("the buffer has its 20 bytes", x.truncate(20) && !x.truncate(21));
            b.same("the buffer is still the same text", x.load(), 0);
            b.same("the buffer is still the same text", x.count(6), 7);
        }
    }

    private void loadEmptiesTheBuffer() {
        b.terms("except that load empties the buffer and sets the error.");
        WaterExchange x = made();
        String before = Use.allOf(x).replace("errors -1 0", "errors 5 2");
        Use.put(x, "loss 51;");
        b.noArgument("load", x::load);
        b.same("everything else", Use.allOf(x), before);
        b.fails("the buffer is empty", x.truncate(1));
    }
}
