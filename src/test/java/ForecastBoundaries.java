import java.util.function.IntConsumer;

/** Promises 35 to 43: the forecasts. */
final class ForecastBoundaries {
    private static final int[] NO_MONTHS = {0, 37, 38, -1, Integer.MIN_VALUE, Integer.MAX_VALUE};
    private static final String TRADES = "reach 90 10;reach 20 5;season 100 50 20 0;years 100 50;accounts 3;loss 5;"
            + "right 0 0 20 80 returns 50 1 keeps 25;right 1 1 10 60;right 2 0 30 90;"
            + "lease 0 1 1 20 4 35;lease 1 2 0 30 5 36;option 2 0 1 60 10 3;";

    private final Boundary b;

    ForecastBoundaries(Boundary b) {
        this.b = b;
    }

    void all() {
        nothingChanges();
        expected();
        cutMonths();
        balanceAfter();
        driestMonth();
        nextExercise();
        free();
        bestReach();
        injured();
        injuredByANinthLease();
        blocked();
    }

    private void noOtherMonths(IntConsumer call) {
        for (int months : NO_MONTHS) {
            b.noArgument(months + " months", () -> call.accept(months));
        }
    }

    // A twin runs what is forecast.
    private static WaterExchange after(String text, int months) {
        WaterExchange twin = Use.of(text);
        twin.run(months);
        return twin;
    }

    private void nothingChanges() {
        b.terms("the interface says: ---- forecasts; nothing changes.");
        WaterExchange x = Use.of(TRADES);
        x.run(13);
        x.save(0);
        x.formatRiver();
        String text = Use.formatted(x, 6);
        String before = Use.allOf(x);
        for (int months = 1; months <= 36; months += 35) {
            x.expected(2, months);
            x.cutMonths(2, months);
            x.balanceAfter(2, months);
            x.driestMonth(months);
        }
        x.nextExercise();
        x.free(0);
        x.bestReach(2);
        x.injured(1, 0, 999);
        x.blocked(0);
        b.same("everything", Use.allOf(x), before);
        b.same("the formatted text", Use.formatted(x, 6), text);
        b.same("the slot", x.restore(0), 13);
    }

    private void expected() {
        b.promise(35, "months: 1 to 36");
        WaterExchange x = Use.of(TRADES);
        for (int months : new int[] {1, 2, 12, 13, 24, 25, 35, 36}) {
            b.same(months + " months", x.expected(0, months), after(TRADES, months).right(0, 7));
        }
        b.promise(35, "Throws IllegalArgumentException if months is out of range");
        noOtherMonths(months -> x.expected(0, months));
        b.promise(35, "Returns what all claims of the right would get in so many months from now on, together.");
        x.run(36);
        WaterExchange twin = after(TRADES, 36);
        twin.run(36);
        for (int right = 0; right < 3; right++) {
            b.same("from now on", x.expected(right, 36), twin.right(right, 7) - x.right(right, 7));
        }
        b.holds("some so far", x.right(0, 7) > 0 && x.right(1, 7) > 0);
        b.same("without water", Use.of("reach 0 0;right 0 0 1 9;").expected(0, 36), 0);
        b.same("its lease too", Use.of("reach 9 0;right 0 0 1 9;lease 0 0 0 9 0 1;").expected(0, 1), 9);
        b.same("all it can", Use.of("reach 999 0;right 0 0 1 999;").expected(0, 36), 36 * 999);
    }

    private void cutMonths() {
        b.promise(36, "months: 1 to 36");
        WaterExchange x = Use.of(TRADES);
        for (int months : new int[] {1, 2, 12, 13, 24, 25, 35, 36}) {
            for (int right = 0; right < 3; right++) {
                b.same(months + " months", x.cutMonths(right, months), after(TRADES, months).right(right, 9));
            }
        }
        b.promise(36, "Throws IllegalArgumentException if months is out of range");
        noOtherMonths(months -> x.cutMonths(0, months));
        b.promise(36, "Returns the number of these months in which a claim of the right would get less than it wants.");
        b.same("in none", Use.of("reach 9 0;right 0 0 1 9;").cutMonths(0, 36), 0);
        b.same("in all", Use.of("reach 8 0;right 0 0 1 9;").cutMonths(0, 36), 36);
        b.same("a lease that gets less", Use.of("reach 8 0;right 0 0 1 9;lease 0 0 0 9 0 1;").cutMonths(0, 1), 1);
        b.same("two claims of one month", Use.of("reach 0 0;right 0 0 1 9;lease 0 0 0 5 0 9;").cutMonths(0, 1), 1);
        b.same("who wants 0 gets no less", Use.of("reach 9 0;right 0 0 1 9;lease 0 0 0 9 0 36;").cutMonths(0, 36), 0);
        WaterExchange y = Use.of("reach 9 0;season 0 0 0;right 0 0 1 9;");
        y.run(2);
        b.same("those so far do not count", y.cutMonths(0, 10), 1);
        b.same("the next year's", y.cutMonths(0, 11), 2);
    }

    private void balanceAfter() {
        b.promise(37, "months: 1 to 36");
        WaterExchange x = Use.of(TRADES);
        for (int months : new int[] {1, 2, 12, 13, 24, 25, 35, 36}) {
            for (int account = 0; account < 3; account++) {
                b.same(months + " months", x.balanceAfter(account, months), after(TRADES, months).balance(account));
            }
        }
        b.promise(37, "Throws IllegalArgumentException if months is out of range");
        noOtherMonths(months -> x.balanceAfter(0, months));
        noOtherMonths(months -> new WaterExchange().balanceAfter(0, months));
        b.promise(37, "Returns the balance of the account behind so many months.");
        b.same("without reaches nothing is paid", new WaterExchange().balanceAfter(0, 36), 0);
        WaterExchange y = Use.of("reach 9 0;accounts 2;right 0 0 1 9;option 0 1 0 1 7 0;");
        y.transfer(0, 0, 5);
        y.transfer(0, 1, 9);
        y.transfer(0, 0, 10);
        b.same("the premium of month 0", y.balanceAfter(0, 1), -1 + 7);
        b.same("and not yet of month 12", y.balanceAfter(0, 12), -1 + 7);
        b.same("and of month 12", y.balanceAfter(0, 13), -1 + 14);
        b.same("below 0", y.balanceAfter(1, 36), 1 - 21);
    }

    private void driestMonth() {
        b.promise(38, "months: 1 to 36");
        WaterExchange x = Use.of("reach 800 0;season 99 98 97 96 95 94 93 92 91 90 89 88;years 100 50 25;");
        for (int months = 1; months <= 36; months++) {
            b.same("each one is drier, of " + months, x.driestMonth(months), months);
        }
        b.promise(38, "Throws IllegalArgumentException if months is out of range");
        noOtherMonths(x::driestMonth);
        b.promise(38, "Returns the number of the month among the next ones, from 1 to months, that has the least "
                + "outflow; of several the first one.");
        b.same("all alike", Use.of("reach 9 0;").driestMonth(36), 1);
        WaterExchange y = Use.of("reach 9 0;season 100 0 0;");
        b.same("the first of several", y.driestMonth(36), 2);
        y.run(2);
        b.same("the next one has the number 1", y.driestMonth(36), 1);
        y.run(1);
        b.same("the 11th from now", y.driestMonth(36), 11);
        b.same("too few months for that", y.driestMonth(10), 1);
        b.same("the last of 36", after("reach 100 0;season 100 100 100 100 100 100 100 100 100 100 100 99;years 100 99 98;",
                0 + 1).driestMonth(36), 35);
        b.promise(38, "Throws IllegalStateException if there are no reaches");
        b.noState("a new object", () -> new WaterExchange().driestMonth(1));
        b.noState("a text without them", () -> Use.of("accounts 2;loss 3;").driestMonth(36));
    }

    private void nextExercise() {
        b.promise(39, "Returns the number of months from now on, 0 to 60, until the next one in which some option is "
                + "exercised (0: the next month that is run); NONE if there is none.");
        String river = "reach 9 0;right 0 0 1 1;right 0 0 2 1;option 0 0 0 50 0 0;option 1 0 0 40 0 0;";
        b.same("no options", Use.of("reach 9 0;years 0;right 0 0 1 1;").nextExercise(), -1);
        b.same("no reaches", new WaterExchange().nextExercise(), -1);
        b.same("never: not less than its trigger", Use.of("years 50 51 52 53 54;" + river).nextExercise(), -1);
        b.same("always", Use.of("years 49;" + river).nextExercise(), 0);
        b.same("the second option alone", Use.of("years 39;reach 9 0;right 0 0 1 1;right 0 0 2 1;option 0 0 0 1 0 0;"
                + "option 1 0 0 40 0 0;").nextExercise(), 0);
        int[] due = {48, 47, 36, 1, 0, 0, 0, 48};
        int[] time = {0, 1, 12, 47, 48, 49, 59, 60};
        WaterExchange x = Use.of("years 50 50 50 50 49;" + river);
        for (int i = 0; i < time.length; i++) {
            while (x.count(5) < time[i]) {
                x.run(1);
            }
            b.same("at " + time[i], x.nextExercise(), due[i]);
        }
        WaterExchange y = Use.of("years 49 50 50 50 50;" + river);
        b.same("now", y.nextExercise(), 0);
        y.run(12);
        b.same("not before the years begin again", y.nextExercise(), 48);
    }

    private void free() {
        b.promise(40, "Returns the greatest volume (1 to 999) for which a claim that is served ahead of all others at "
                + "this reach, and returns nothing, would get all of it in the next month; 0 if there is none.");
        int[][] cases = {{100, 99, 1}, {100, 100, 0}, {100, 101, 0}, {999, 0, 999}, {999, 1, 998}, {0, 0, 0}, {1, 0, 1}};
        for (int[] c : cases) {
            b.same("one reach", Use.of("reach " + c[0] + " " + c[1] + ";right 0 0 1 99;").free(0), c[2]);
        }
        WaterExchange x = Use.of("reach 999 0;season 200;right 0 0 1 999;");
        b.same("at most 999", x.free(0), 999);
        x.setMinimum(0, 998);
        b.same("1000 to spare", x.free(0), 999);
        x.setMinimum(0, 999);
        b.same("999 to spare", x.free(0), 999);
        WaterExchange y = Use.of("reach 50 0;reach 50 70;reach 50 149;");
        b.same("the lowest gauge", y.free(0) * 10000 + y.free(1) * 100 + y.free(2), 10101);
        y.setMinimum(2, 0);
        b.same("a gauge above does not count", y.free(2), 150);
        b.same("the one below does", y.free(0) * 100 + y.free(1), 3030);
        y.setMinimum(0, 999);
        b.same("a low gauge above does not count", y.free(1), 30);
        b.same("its own low gauge does", y.free(0), 0);
        b.noNumber("no reach 3", () -> y.free(3));
    }

    private void bestReach() {
        b.promise(41, "Returns the reach at which one lease of the right with its amount as the volume, in place of all "
                + "of its leases and without its option, would get most in the next month; of several the lowest one.");
        b.same("one reach", Use.of("reach 9 0;right 0 0 1 9;").bestReach(0), 0);
        b.same("nothing anywhere", Use.of("reach 0 0;reach 0 0;right 0 0 1 9;").bestReach(0), 0);
        b.same("all it wants anywhere", Use.of("reach 9 0;reach 9 0;right 0 1 1 9;").bestReach(0), 0);
        b.same("one more further down", Use.of("reach 8 0;reach 1 0;right 0 0 1 9;").bestReach(0), 1);
        b.same("the lowest number", Use.of("reach 8 0;reach 1 0;reach 9 0;right 0 0 1 9;").bestReach(0), 1);
        b.same("the last of six", Use.of("reach 1 0;".repeat(6) + "right 0 0 1 6;").bestReach(0), 5);
        b.same("its part alone", Use.of("reach 8 0;reach 1 0;right 0 0 1 16 returns 50 0;").bestReach(0), 0);
        WaterExchange x = Use.of("reach 8 0;reach 1 0;right 0 0 1 9;" + "lease 0 0 0 9 0 9;".repeat(8));
        b.same("in place of all of 8 leases", x.bestReach(0), 1);
        b.same("they are still there", x.count(3), 8);
        x = Use.of("reach 16 0;reach 2 0;years 50;right 0 0 1 9;option 0 0 0 51 0 9;");
        b.same("without its option", x.bestReach(0), 1);
        b.same("it is still there", x.count(4), 1);
        x = Use.of("reach 9 0;reach 1 0;right 0 0 1 9;right 0 0 2 9;" + "lease 0 0 0 9 0 9;".repeat(8));
        b.same("the leases of others stay", x.bestReach(1), 1);
    }

    private void injured() {
        b.promise(42, "volume: 1 to 999");
        WaterExchange x = Use.of("reach 50 0;reach 50 0;right 0 1 1 50;right 0 0 2 49;right 0 0 3 1;");
        b.same("1", x.injured(0, 0, 1), 4);
        b.same("2", x.injured(0, 0, 2), 2 | 4);
        b.same("999", x.injured(0, 0, 999), 2 | 4);
        b.promise(42, "Throws IllegalArgumentException if volume is out of range");
        for (int volume : new int[] {0, 1000, -1, Integer.MIN_VALUE, Integer.MAX_VALUE}) {
            b.noArgument("volume " + volume, () -> x.injured(0, 0, volume));
        }
        b.promise(42, "Returns the set of the rights, without this one, all of whose claims together would get less");
        StringBuilder ten = new StringBuilder("reach 9 0;reach 99 0;right 0 1 1 99;");
        for (int i = 2; i <= 10; i++) {
            ten.append("right 0 0 ").append(i).append(" 1;");
        }
        WaterExchange y = Use.of(ten.toString());
        b.same("none by the last one", y.injured(9, 0, 1), 0);
        b.same("the last one of ten", y.injured(0, 0, 1), 512);
        b.same("all of nine", y.injured(0, 0, 9), 1022);
        b.same("the first one", Use.of("reach 9 0;reach 9 0;right 0 0 2 9;right 0 1 1 9;").injured(1, 0, 9), 1);
        b.same("who has nothing cannot get less", Use.of("reach 0 0;right 0 0 1 9;right 0 0 2 9;").injured(0, 0, 9), 0);
        b.same("one right", Use.of("reach 9 0;right 0 0 1 9;").injured(0, 0, 9), 0);
    }

    private void injuredByANinthLease() {
        b.promise(42, "in the next month if there were this lease of the right, to its own account,");
        WaterExchange own = Use.of("reach 9 0;reach 9 0;accounts 2;right 1 1 1 9;right 0 0 2 9;");
        String before = Use.allOf(own);
        b.same("right 1 gets 4 of 9", own.injured(0, 0, 5), 2);
        b.same("no lease is made", Use.allOf(own), before);
        b.promise(42, "as the last one (also if there are 8 leases), as a bit set.");
        String river = "reach 50 0;reach 50 0;right 0 1 1 50;right 0 0 2 49;right 0 0 3 1;";
        WaterExchange x = Use.of(river + "lease 2 0 0 1 0 9;".repeat(8));
        b.same("of a right without a lease", x.injured(0, 0, 2), 2 | 4);
        b.same("still 8", x.count(3), 8);
        b.noState("still no ninth one", () -> x.lease(0, 0, 0, 1, 1, 1));
        WaterExchange y = Use.of(river + "lease 0 0 1 6 0 9;".repeat(7) + "lease 0 0 1 7 0 9;");
        b.same("1 of 50 is left for the last one", y.injured(0, 0, 999), 4);
        WaterExchange z = Use.of(river + "lease 0 0 1 6 0 9;".repeat(7) + "lease 0 0 1 8 0 9;");
        b.same("nothing is left for the last one", z.injured(0, 0, 999), 0);
    }

    private void blocked() {
        b.promise(43, "Returns the set of the rights, without this one, all of whose claims together would get more in "
                + "the next month if this right made no claims, as a bit set.");
        StringBuilder ten = new StringBuilder("reach 9 0;");
        for (int i = 1; i <= 10; i++) {
            ten.append("right 0 0 ").append(i).append(i == 1 ? " 9;" : " 1;");
        }
        WaterExchange x = Use.of(ten.toString());
        b.same("all of nine", x.blocked(0), 1022);
        b.same("none by the last one", x.blocked(9), 0);
        b.same("none by one that gets nothing", x.blocked(1), 0);
        b.same("one right", Use.of("reach 0 0;right 0 0 1 9;").blocked(0), 0);
        b.same("none is cut", Use.of("reach 9 0;right 0 0 1 5;right 0 0 2 4;").blocked(0), 0);
        b.same("one is cut", Use.of("reach 9 0;right 0 0 1 5;right 0 0 2 5;").blocked(0), 2);
        b.same("the first one", Use.of("reach 9 0;right 0 0 2 5;right 0 0 1 5;").blocked(1), 1);
        b.same("its leases", Use.of("reach 9 0;right 0 0 1 5;right 0 0 2 5;lease 0 0 0 5 0 9;").blocked(0), 2);
        b.same("its option", Use.of("reach 9 0;years 9;season 200;right 0 0 1 1;right 0 0 2 5;option 0 0 0 10 0 9;")
                .blocked(0), 2);
        String returning = "reach 9 0;reach 0 0;right 0 0 1 9 returns 90 1;right 0 1 2 9;";
        b.same("who lives on what it returns gets more too", Use.of(returning).blocked(0), 2);
        b.noNumber("no right 2", () -> Use.of(returning).blocked(2));
    }
}
