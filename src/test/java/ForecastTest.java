/** Promises 35 to 43: forecasts, which change nothing. */
public final class ForecastTest {
    private static final Check CHECK = new Check();
    private static final Class<? extends RuntimeException> INDEX = IndexOutOfBoundsException.class;
    private static final Class<? extends RuntimeException> ARGUMENT = IllegalArgumentException.class;
    private static final Class<? extends RuntimeException> STATE = IllegalStateException.class;
    private static final int[] STRANGE = {-1, Integer.MIN_VALUE, Integer.MAX_VALUE};
    private static final int[] NO_MONTHS = {0, 37, -1, Integer.MIN_VALUE, Integer.MAX_VALUE};
    private static final String TEXT = "reach 100 10;reach 50 20;season 100 50 20;years 100 50;accounts 3;loss 5;"
            + "right 0 0 20 80 returns 50 1 keeps 25;right 1 1 10 60;right 2 0 30 90;"
            + "lease 0 1 1 20 4 2;option 2 0 1 60 10 3;";

    public static void main(String[] args) {
        asRunsTell();
        wrongInputs();
        sums();
        driest();
        exercises();
        freeVolumes();
        bestReaches();
        injuries();
        blocks();
        CHECK.end();
    }

    // A forecast over months tells what a twin tells that runs them; and nothing changes by it.
    private static void asRunsTell() {
        for (int months = 1; months <= 36; months++) {
            WaterExchange x = Use.of(TEXT);
            WaterExchange twin = Use.of(TEXT);
            x.run(2);
            twin.run(2);
            int got = x.right(2, 7);
            int cut = x.right(2, 9);
            String before = Use.allOf(x);
            int expected = x.expected(2, months);
            int cutMonths = x.cutMonths(2, months);
            long balance = x.balanceAfter(0, months);
            x.driestMonth(months);
            x.nextExercise();
            x.free(0);
            x.bestReach(2);
            x.injured(2, 1, 30);
            x.blocked(1);
            CHECK.same("35 to 43: nothing changes", Use.allOf(x), before);
            twin.run(months);
            CHECK.same("35: " + months, expected, twin.right(2, 7) - got);
            CHECK.same("36: " + months, cutMonths, twin.right(2, 9) - cut);
            CHECK.same("37: " + months, balance, twin.balance(0));
        }
    }

    private static void wrongInputs() {
        WaterExchange x = Use.of(TEXT);
        for (int months : NO_MONTHS) {
            CHECK.refuses("35: months", ARGUMENT, () -> x.expected(0, months));
            CHECK.refuses("36: months", ARGUMENT, () -> x.cutMonths(0, months));
            CHECK.refuses("37: months", ARGUMENT, () -> x.balanceAfter(0, months));
            CHECK.refuses("38: months", ARGUMENT, () -> x.driestMonth(months));
            CHECK.refuses("38: months first", ARGUMENT, () -> new WaterExchange().driestMonth(months));
            CHECK.refuses("35: both", INDEX, () -> x.expected(3, months));
            CHECK.refuses("36: both", INDEX, () -> x.cutMonths(3, months));
            CHECK.refuses("37: both", INDEX, () -> x.balanceAfter(3, months));
        }
        CHECK.refuses("38: no reaches", STATE, () -> new WaterExchange().driestMonth(1));
        CHECK.same("37: no reaches", new WaterExchange().balanceAfter(0, 36), 0);
        for (int strange : new int[] {3, -1, Integer.MIN_VALUE, Integer.MAX_VALUE}) {
            CHECK.refuses("35: right", INDEX, () -> x.expected(strange, 1));
            CHECK.refuses("36: right", INDEX, () -> x.cutMonths(strange, 1));
            CHECK.refuses("37: account", INDEX, () -> x.balanceAfter(strange, 1));
            CHECK.refuses("40: reach", INDEX, () -> x.free(strange));
            CHECK.refuses("41: right", INDEX, () -> x.bestReach(strange));
            CHECK.refuses("42: right", INDEX, () -> x.injured(strange, 0, 1));
            CHECK.refuses("42: reach", INDEX, () -> x.injured(0, strange, 1));
            CHECK.refuses("42: all wrong", INDEX, () -> x.injured(strange, strange, 0));
            CHECK.refuses("43: right", INDEX, () -> x.blocked(strange));
        }
        CHECK.refuses("40: reach 2", INDEX, () -> x.free(2));
        CHECK.refuses("42: reach 2", INDEX, () -> x.injured(0, 2, 0));
        for (int volume : new int[] {0, 1000, -1, Integer.MIN_VALUE, Integer.MAX_VALUE}) {
            CHECK.refuses("42: volume", ARGUMENT, () -> x.injured(0, 0, volume));
        }
        x.injured(0, 0, 1);
        x.injured(0, 0, 999);
    }

    private static void sums() {
        WaterExchange x = Use.of("reach 60 0;season 100 50;accounts 2;right 0 0 1 50;right 1 0 2 20;lease 0 1 0 30 2 1;");
        CHECK.same("35: 50 in month 0", x.expected(0, 1), 50);
        CHECK.same("35: 50 and 30", x.expected(0, 2), 80);
        CHECK.same("35: 10, 0 and 10", x.expected(1, 3), 20);
        CHECK.same("36: month 1", x.cutMonths(0, 3), 1);
        CHECK.same("36: all", x.cutMonths(1, 3), 3);
        CHECK.same("37: one month of the lease", x.balanceAfter(0, 3), 60);
        CHECK.same("37: one month of the lease", x.balanceAfter(1, 3), -60);
        x.run(1);
        CHECK.same("35: from now on", x.expected(0, 1), 30);
        CHECK.same("36: from now on", x.cutMonths(1, 36), 36);
        WaterExchange fresh = Use.of("reach 60 0;season 100 50;accounts 2;right 0 0 1 50;lease 0 1 0 30 2 2;");
        CHECK.same("36: asked first", fresh.cutMonths(0, 2), 1);
        CHECK.same("37: asked next", fresh.balanceAfter(0, 1), 60);
        CHECK.same("35: asked next", fresh.expected(0, 2), 80);
        CHECK.same("37: the loss of another account", fresh.balanceAfter(1, 36), -120);
    }

    private static void driest() {
        WaterExchange x = Use.of("reach 100 0;season 90 80 80 70 70 99;right 0 0 1 5;");
        CHECK.same("38: of 1", x.driestMonth(1), 1);
        CHECK.same("38: of 2", x.driestMonth(2), 2);
        CHECK.same("38: the first of two", x.driestMonth(3), 2);
        CHECK.same("38: of 36", x.driestMonth(36), 4);
        x.run(4);
        CHECK.same("38: from now on", x.driestMonth(36), 1);
        x.run(1);
        CHECK.same("38: from now on", x.driestMonth(36), 11);
        WaterExchange z = Use.of("reach 100 0;right 0 0 1 60 returns 50 0;lease 0 0 0 60 1 3;lease 0 0 0 1 1 1;");
        z.setKeep(0, 100);
        CHECK.same("38: own claims take more than leases", z.driestMonth(36), 4);
    }

    private static void exercises() {
        WaterExchange x = Use.of("reach 9 0;years 100 90 100 100 80;right 0 0 1 1;right 0 0 2 1;"
                + "option 0 0 0 81 0 0;option 1 0 0 90 0 0;");
        CHECK.same("39: in year 4", x.nextExercise(), 48);
        x.run(36);
        CHECK.same("39: 12 months on", x.nextExercise(), 12);
        x.run(12);
        CHECK.same("39: now", x.nextExercise(), 0);
        x.run(11);
        CHECK.same("39: the last month of it", x.nextExercise(), 0);
        x.run(1);
        CHECK.same("39: again", x.nextExercise(), 48);
        CHECK.same("39: never", Use.of("reach 9 0;years 80;right 0 0 1 1;option 0 0 0 80 0 0;").nextExercise(), -1);
        CHECK.same("39: no options", Use.of("reach 9 0;years 0;right 0 0 1 1;").nextExercise(), -1);
        CHECK.same("39: no reaches", new WaterExchange().nextExercise(), -1);
        WaterExchange y = Use.of("reach 9 0;years 50 100 100 100 100;right 0 0 1 1;option 0 0 0 51 0 0;");
        y.run(12);
        CHECK.same("39: far", y.nextExercise(), 48);
    }

    private static void freeVolumes() {
        WaterExchange x = Use.of("reach 100 30;reach 50 110;reach 900 0;season 100 10;right 0 0 1 99 keeps 100;");
        CHECK.same("40: bounded by gauge 1", x.free(0), 40);
        CHECK.same("40: bounded by gauge 1", x.free(1), 40);
        CHECK.same("40: at most 999", x.free(2), 999);
        x.setMinimum(2, 51);
        CHECK.same("40: 999 of 1050", x.free(2), 999);
        x.setMinimum(2, 52);
        CHECK.same("40: 998", x.free(2), 998);
        x.setMinimum(1, 160);
        CHECK.same("40: a gauge below its minimum", x.free(0), 0);
        x.setMinimum(1, 0);
        x.run(1);
        CHECK.same("40: the next month, not the latest", x.free(0), 0);
        x.release(0, 0, 27);
        CHECK.same("40: with what was released", x.free(0), 7);
    }

    private static void bestReaches() {
        WaterExchange x = Use.of("reach 30 0;reach 30 0;reach 30 0;reach 0 0;right 0 0 1 70;");
        CHECK.same("41: the lowest number of the two with 70", x.bestReach(0), 2);
        x = Use.of("reach 30 0;reach 30 0;reach 30 0;reach 0 0;right 0 0 1 70 returns 60 3;");
        CHECK.same("41: only 28 are wanted", x.bestReach(0), 0);
        x = Use.of("reach 30 0;reach 30 0;reach 30 0;right 0 0 1 70 returns 50 2;right 0 0 2 20;");
        CHECK.same("41: 35 behind nothing", x.bestReach(0), 1);
        CHECK.same("41: nothing is left above", x.bestReach(1), 1);
        x = Use.of("reach 30 0;reach 30 0;right 0 0 1 40;lease 0 0 0 40 1 9;right 0 0 2 20;lease 1 0 1 20 1 9;"
                + "years 10;option 0 0 0 99 1 1;option 1 0 0 99 1 1;");
        CHECK.same("41: in place of its leases, without its option", x.bestReach(0), 1);
        x = Use.of("reach 100 0;reach 0 0;right 0 0 1 60;lease 0 0 0 60 1 9;");
        CHECK.same("41: its own lease takes nothing from it", x.bestReach(0), 0);
        x = Use.of("reach 30 0;reach 30 0;right 0 0 1 40;right 0 0 2 20;lease 1 0 1 20 1 9;lease 0 0 0 40 1 9;");
        CHECK.same("41: in place of the last lease", x.bestReach(0), 1);
        x = Use.of("reach 100 0;reach 60 0;right 0 0 1 60;right 0 0 2 60;lease 0 0 1 60 1 9;");
        CHECK.same("41: other leases stay", x.bestReach(1), 0);
        CHECK.same("41: nothing anywhere", Use.of("reach 0 0;reach 0 0;right 0 0 1 7;").bestReach(0), 0);
    }

    private static void injuries() {
        String river = "reach 50 0;reach 50 0;accounts 2;right 0 1 1 60;right 1 0 2 20;right 0 0 3 20;right 1 1 4 9;";
        WaterExchange x = Use.of(river);
        CHECK.same("42: where it is already", x.injured(0, 1, 60), 0);
        CHECK.same("42: 45 at reach 0 leave 5 of 20 and 0 of 20; who got 0 gets more", x.injured(0, 0, 45), 2 | 4);
        CHECK.same("42: 31 leave 19 of 20", x.injured(0, 0, 31), 2 | 4);
        CHECK.same("42: 30 leave 20 of 20", x.injured(0, 0, 30), 4);
        CHECK.same("42: 10 injure nobody", x.injured(0, 0, 10), 0);
        CHECK.same("42: 11 injure the second", x.injured(0, 0, 11), 4);
        CHECK.same("42: no more than the amount", x.injured(0, 0, 999), 2 | 4);
        CHECK.same("42: not itself, nor those ahead of it", x.injured(2, 1, 20), 0);
        x.setMinimum(0, 20);
        CHECK.same("42: as it is, with 10 of 20 for the second", x.injured(0, 0, 11), 2 | 4);
        x = Use.of(river + "lease 3 0 0 1 1 9;".repeat(8));
        CHECK.same("42: also if there are 8 leases", x.injured(0, 0, 45), 2 | 4);
        CHECK.same("42: still 8 leases", x.count(3), 8);
        x = Use.of(river + "lease 0 0 1 60 1 9;");
        CHECK.same("42: as the last one it gets nothing", x.injured(0, 0, 45), 0);
        x = Use.of(river + "lease 0 0 1 40 1 9;");
        CHECK.same("42: as the last one it gets 20", x.injured(0, 0, 45), 4);
        x = Use.of(river + "lease 2 0 1 5 1 9;");
        CHECK.same("42: all claims together", x.injured(0, 0, 30), 4);
        x = Use.of("reach 50 0;reach 50 0;right 0 0 7 20;right 0 0 8 30;right 0 1 1 60;");
        CHECK.same("42: right 0 and right 1 by right 2", x.injured(2, 0, 45), 1 | 2);
        x = Use.of("reach 90 0;right 0 0 1 80 returns 50 0;right 0 0 2 60;");
        CHECK.same("42: 40 for good, returned or not wanted", x.injured(0, 0, 80), 0);
        x.setMinimum(0, 40);
        CHECK.same("42: 50 either way", x.injured(0, 0, 80), 0);
    }

    private static void blocks() {
        WaterExchange x = Use.of("reach 50 0;reach 50 0;right 0 1 1 60;right 0 0 2 50;right 0 1 3 9;right 0 1 4 5;");
        CHECK.same("43: all below in rank that were cut", x.blocked(0), 2 | 4 | 8);
        CHECK.same("43: of the second", x.blocked(1), 4 | 8);
        CHECK.same("43: of the last one", x.blocked(3), 0);
        x.lease(0, 0, 1, 60, 1, 9);
        CHECK.same("43: its leases are claims of it", x.blocked(0), 2 | 4 | 8);
        x = Use.of("reach 30 0;years 10;season 200;right 0 0 1 3;right 0 0 2 6;option 0 0 0 99 1 1;");
        CHECK.same("43: its option is a claim of it", x.blocked(0), 2);
        x = Use.of("reach 500 0;right 0 0 1 3;right 0 0 2 6;");
        CHECK.same("43: nobody was cut", x.blocked(0), 0);
        CHECK.same("43: one right", Use.of("reach 5 0;right 0 0 1 9;").blocked(0), 0);
        x = Use.of("reach 50 0;right 0 0 9 60;right 0 0 8 50;");
        CHECK.same("43: right 0 by right 1", x.blocked(1), 1);
        StringBuilder all = new StringBuilder("reach 900 0;");
        for (int i = 0; i < 10; i++) {
            all.append("right 0 0 ").append(20 - i).append(" 999;");
        }
        x = Use.of(all.toString());
        CHECK.same("43: the next in rank", x.blocked(9), 1 << 8);
        CHECK.same("43: rank 1 gets nothing", x.blocked(8), 0);
    }
}
