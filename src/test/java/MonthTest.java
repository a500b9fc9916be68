import java.util.NoSuchElementException;

/** Promises 18 to 27 and the terms Claims and Flows: what the latest month tells. */
public final class MonthTest {
    private static final Check CHECK = new Check();
    private static final Class<? extends RuntimeException> INDEX = IndexOutOfBoundsException.class;
    private static final Class<? extends RuntimeException> ELEMENT = NoSuchElementException.class;
    private static final int[] STRANGE = {-1, Integer.MIN_VALUE, Integer.MAX_VALUE};
    private static final String SENIOR = "reach 100 10;reach 50 20;accounts 3;right 0 0 20 80 returns 50 1 keeps 25;"
            + "right 1 1 10 60;right 2 0 30 90;";

    public static void main(String[] args) {
        noMonth();
        claims();
        claimsOfOthers();
        leftovers();
        gauges();
        cuts();
        returns();
        lowGauges();
        summaries();
        histories();
        CHECK.end();
    }

    private static void noMonth() {
        WaterExchange x = Use.of(SENIOR);
        CHECK.same("18: none", x.claims(), 0);
        CHECK.refuses("19: none", INDEX, () -> x.claim(0, 0));
        for (int what = 0; what < 5; what++) {
            CHECK.same("20: none", x.gauge(1, what), 0);
        }
        CHECK.same("21: none", x.call(), -1);
        CHECK.same("22: none", x.dryGauges(), 0);
        CHECK.same("23: none", x.served(), 1.0);
        CHECK.same("24: none", x.outflow(), 0);
        CHECK.same("24: no reaches", new WaterExchange().outflow(), 0);
        CHECK.holds("25: none", x.isBalanced());
        CHECK.holds("25: no reaches", new WaterExchange().isBalanced());
        for (int what = 0; what < 4; what++) {
            CHECK.same("26: none", x.history(0, what), -1);
        }
        CHECK.same("27: none", x.meanGot(), 0.0);
    }

    private static void sameClaims(String what, WaterExchange x, int[][] due) {
        CHECK.same("18: " + what, x.claims(), due.length);
        for (int claim = 0; claim < due.length && claim < x.claims(); claim++) {
            for (int field = 0; field < 8; field++) {
                CHECK.same("19: " + what + " " + claim + " " + field, x.claim(claim, field), due[claim][field]);
            }
        }
    }

    private static void claims() {
        WaterExchange x = Use.of(SENIOR);
        CHECK.same("44: sum", x.run(1), 150);
        sameClaims("by seniority", x, new int[][] {
            {0, 1, 1, 1, 60, 60, 0, 0}, {0, 0, 0, 0, 80, 80, 20, 30}, {0, 2, 2, 0, 90, 10, 0, 0}});
        CHECK.refuses("19: claim 3", INDEX, () -> x.claim(3, 0));
        CHECK.refuses("19: what 8", ELEMENT, () -> x.claim(0, 8));
        CHECK.refuses("19: both wrong", INDEX, () -> x.claim(3, 8));
        for (int strange : STRANGE) {
            CHECK.refuses("19: claim", INDEX, () -> x.claim(strange, 0));
            CHECK.refuses("19: what", ELEMENT, () -> x.claim(0, strange));
        }
        x.transfer(1, 2, 5);
        CHECK.same("19: the account as it was then", x.claim(0, 2), 1);
        x.setKeep(0, 0);
        CHECK.same("19: banked as it was then", x.claim(1, 6), 20);
    }

    private static final String TRADES = "reach 200 0;reach 0 0;years 100 50;accounts 3;loss 10;"
            + "right 0 0 5 100 returns 40 1 keeps 50;lease 0 1 0 30 7 2;lease 0 2 1 50 3 12;option 0 2 1 60 25 9;";

    private static void claimsOfOthers() {
        WaterExchange x = Use.of(TRADES);
        x.run(1);
        sameClaims("leases by number, then own", x, new int[][] {
            {1, 0, 1, 0, 18, 18, 0, 0}, {1, 0, 2, 1, 30, 30, 0, 0}, {0, 0, 0, 0, 20, 20, 10, 4}});
        x.run(1);
        sameClaims("once more", x, new int[][] {
            {1, 0, 1, 0, 18, 18, 0, 0}, {1, 0, 2, 1, 30, 30, 0, 0}, {0, 0, 0, 0, 20, 20, 10, 4}});
        x.run(1);
        sameClaims("a lease has ended", x, new int[][] {
            {1, 0, 2, 1, 30, 30, 0, 0}, {0, 0, 0, 0, 50, 50, 25, 10}});
        x.run(10);
        sameClaims("an option in place of the right", x, new int[][] {{2, 0, 2, 1, 60, 60, 0, 0}});
        x.lease(0, 1, 0, 99, 1, 1);
        x.run(1);
        sameClaims("59 of 99, and of 1 nothing", x, new int[][] {
            {1, 0, 1, 0, 59, 59, 0, 0}, {2, 0, 2, 1, 0, 0, 0, 0}});
    }

    private static void leftovers() {
        WaterExchange x = Use.of("reach 99 0;right 0 0 1 50;lease 0 0 0 40 1 9;lease 0 0 0 30 1 9;lease 0 0 0 5 1 9;");
        x.run(1);
        sameClaims("what is left", x, new int[][] {
            {1, 0, 0, 0, 40, 40, 0, 0}, {1, 0, 0, 0, 10, 10, 0, 0}, {1, 0, 0, 0, 0, 0, 0, 0},
            {0, 0, 0, 0, 0, 0, 0, 0}});
        CHECK.same("23: all", x.served(), 1.0);
        x.setMinimum(0, 70);
        x.run(1);
        sameClaims("a claim that gets less leaves no more to the next", x, new int[][] {
            {1, 0, 0, 0, 40, 29, 0, 0}, {1, 0, 0, 0, 10, 0, 0, 0}, {1, 0, 0, 0, 0, 0, 0, 0},
            {0, 0, 0, 0, 0, 0, 0, 0}});
    }

    private static void gauges() {
        WaterExchange x = Use.of(SENIOR);
        x.run(1);
        int[][] due = {{100, 100, 10, 90, 0}, {50, 150, 30, 60, 30}};
        for (int reach = 0; reach < 2; reach++) {
            for (int what = 0; what < 5; what++) {
                CHECK.same("20: gauge " + reach + " " + what, x.gauge(reach, what), due[reach][what]);
            }
        }
        CHECK.refuses("20: reach 2", INDEX, () -> x.gauge(2, 0));
        CHECK.refuses("20: what 5", ELEMENT, () -> x.gauge(0, 5));
        CHECK.refuses("20: both wrong", INDEX, () -> x.gauge(2, 5));
        for (int strange : STRANGE) {
            CHECK.refuses("20: reach", INDEX, () -> x.gauge(strange, 0));
            CHECK.refuses("20: what", ELEMENT, () -> x.gauge(0, strange));
        }
        x.release(0, 1, 7);
        CHECK.same("20: of the latest month", x.gauge(1, 0), 50);
        x.run(1);
        CHECK.same("20: with what was released", x.gauge(1, 0), 57);
        CHECK.same("20: with what was released", x.gauge(1, 1), 157);
        CHECK.same("20: diverted is of one month", x.gauge(1, 3), 60);
    }

    private static void cuts() {
        WaterExchange x = Use.of("reach 50 0;right 0 0 40 30;right 0 0 30 40;right 0 0 20 5;");
        x.run(1);
        CHECK.same("21: the least priority that is cut", x.call(), 40);
        x.swap(0, 1);
        CHECK.same("21: as it was then", x.call(), 40);
        x.setMinimum(0, 46);
        x.run(1);
        CHECK.same("21: 20 is cut", x.call(), 20);
        x.setMinimum(0, 45);
        x.run(1);
        CHECK.same("21: 20 gets all, 30 nothing", x.call(), 30);
        x.setMinimum(0, 0);
        x.setKeep(0, 0);
        WaterExchange y = Use.of("reach 50 0;right 0 0 40 50;");
        y.run(1);
        CHECK.same("21: none", y.call(), -1);
    }

    // What is returned comes back only at gauges from the reach on into which it returns.
    private static void returns() {
        WaterExchange x = Use.of("reach 100 40;reach 0 40;reach 0 90;right 0 0 1 99 returns 90 2;");
        x.run(1);
        CHECK.same("19: 60 at gauge 0", x.claim(0, 5), 60);
        CHECK.same("19: 54 come back", x.claim(0, 7), 54);
        CHECK.same("57: river", Use.riverOf(x), "40>40>94");
        x = Use.of("reach 100 40;reach 0 40;reach 0 97;right 0 0 1 99 returns 90 2;");
        x.run(1);
        CHECK.same("19: the lowest gauge bounds: x - x * 90 / 100 is at most 3", x.claim(0, 5), 30);
        CHECK.same("57: river", Use.riverOf(x), "70>70>97");
        x = Use.of("reach 100 95;right 0 0 1 99 returns 50 0;");
        x.run(1);
        CHECK.same("19: its own reach: 10 less 5", x.claim(0, 5), 10);
        CHECK.same("57: river", Use.riverOf(x), "95");
        x = Use.of("reach 100 94;right 0 0 1 99 returns 50 0 keeps 30;");
        x.run(1);
        CHECK.same("19: 9, less 3 of the 7 that are not banked", x.claim(0, 5), 9);
        CHECK.same("19: 9 * 30 / 100", x.claim(0, 6), 2);
        CHECK.same("19: 7 * 50 / 100", x.claim(0, 7), 3);
        CHECK.same("24: outflow", x.outflow(), 94);
    }

    private static void lowGauges() {
        WaterExchange x = Use.of("reach 100 0;reach 0 101;right 0 0 1 50;");
        x.run(1);
        CHECK.same("19: a gauge below its minimum cannot be lowered", x.claim(0, 5), 0);
        x = Use.of("reach 100 0;reach 0 101;right 0 0 1 50 returns 90 1;");
        x.run(1);
        CHECK.same("19: even 1 would lower it", x.claim(0, 5), 0);
        x = Use.of("reach 100 101;reach 50 0;right 0 1 1 70;");
        x.run(1);
        CHECK.same("19: a low gauge above does not matter", x.claim(0, 5), 70);
        CHECK.same("22: gauge 0 is dry", x.dryGauges(), 1);
        x = Use.of("reach 100 100;reach 50 150;reach 0 151;");
        x.run(1);
        CHECK.same("22: gauge 2 is dry", x.dryGauges(), 4);
        x.setMinimum(1, 151);
        x.setMinimum(2, 150);
        CHECK.same("22: the minimum as it is now", x.dryGauges(), 2);
    }

    private static void summaries() {
        WaterExchange x = Use.of(SENIOR);
        x.run(1);
        CHECK.same("23: served", x.served(), 150.0 / 230.0);
        CHECK.same("24: outflow", x.outflow(), 30);
        CHECK.holds("25: balanced", x.isBalanced());
        x.setMinimum(0, 11);
        x.setMinimum(1, 31);
        CHECK.same("22: both", x.dryGauges(), 3);
        CHECK.holds("25: balanced", x.isBalanced());
        x = Use.of("reach 100 0;");
        x.run(1);
        CHECK.same("23: nothing was wanted", x.served(), 1.0);
        CHECK.same("24: outflow", x.outflow(), 100);
        x = Use.of("reach 0 0;right 0 0 1 7;");
        x.run(1);
        CHECK.same("23: nothing was got", x.served(), 0.0);
    }

    private static void histories() {
        WaterExchange x = Use.of("reach 100 30;season 10 20 30 40 50 60 70 80 90 100 110 120;right 0 0 8 50;"
                + "right 0 0 3 20;");
        x.run(1);
        x.run(3);
        int[][] due = {{3, 10, 30, 3}, {2, 0, 30, 3}, {1, 0, 20, 3}, {0, 0, 10, 3}, {-1, -1, -1, -1}};
        for (int ago = 0; ago < due.length; ago++) {
            for (int what = 0; what < 4; what++) {
                CHECK.same("26: " + ago + " " + what, x.history(ago, what), due[ago][what]);
            }
        }
        CHECK.same("27: mean of four", x.meanGot(), 10.0 / 4.0);
        x.run(6);
        CHECK.same("26: none is cut", x.history(0, 3), -1);
        CHECK.same("26: 100 less 70", x.history(0, 2), 30);
        x.run(18);
        CHECK.same("26: the oldest of 24", x.history(23, 0), 4);
        CHECK.same("26: no 25th", x.history(24, 0), -1);
        CHECK.same("26: the latest", x.history(0, 0), 27);
        int sum = 0;
        for (int ago = 0; ago < 24; ago++) {
            sum += x.history(ago, 1);
        }
        CHECK.same("26: sums", sum, 840);
        CHECK.same("27: mean of 24", x.meanGot(), 840.0 / 24.0);
        WaterExchange y = x;
        CHECK.refuses("26: what 4", ELEMENT, () -> y.history(0, 4));
        CHECK.refuses("26: what 4 of no month", ELEMENT, () -> y.history(-1, 4));
        for (int strange : STRANGE) {
            CHECK.refuses("26: what", ELEMENT, () -> y.history(0, strange));
            CHECK.same("26: no such month", y.history(strange, 1), -1);
        }
    }
}
