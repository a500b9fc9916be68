import java.util.NoSuchElementException;

/** Promises 7 to 17: what stands in the river, its accounts, rights, leases and options. */
public final class RiverTest {
    private static final Check CHECK = new Check();
    private static final Class<? extends RuntimeException> INDEX = IndexOutOfBoundsException.class;
    private static final Class<? extends RuntimeException> ELEMENT = NoSuchElementException.class;
    private static final int[] STRANGE = {-1, Integer.MIN_VALUE, Integer.MAX_VALUE};
    private static final String TEXT = "reach 150 10;reach 99 20;reach 0 30;season 0 50 200 33;years 100 150 99;loss 7;"
            + "accounts 3;right 2 0 50 80 returns 40 1 keeps 30;right 1 2 9 70;right 1 1 99 60 keeps 1;"
            + "lease 0 1 2 40 9 3;lease 2 0 0 50 8 4;option 1 2 1 100 30 6;option 0 0 2 99 20 5;";

    public static void main(String[] args) {
        counts();
        percentages();
        reaches();
        accounts();
        rights();
        leasesAndOptions();
        CHECK.end();
    }

    private static void counts() {
        WaterExchange x = Use.of(TEXT);
        int[] due = {3, 3, 3, 2, 2, 0, 7, 3};
        for (int what = 0; what < due.length; what++) {
            CHECK.same("7: count " + what, x.count(what), due[what]);
        }
        x.run(4);
        CHECK.same("7: the time", x.count(5), 4);
        CHECK.same("7: leases that end", x.count(3), 0);
        CHECK.refuses("7: 8", ELEMENT, () -> x.count(8));
        for (int strange : STRANGE) {
            CHECK.refuses("7: " + strange, ELEMENT, () -> x.count(strange));
        }
    }

    private static void percentages() {
        WaterExchange x = Use.of(TEXT);
        int[] seasons = {0, 50, 200, 33, 100, 100, 100, 100, 100, 100, 100, 100};
        for (int month = 0; month < 12; month++) {
            CHECK.same("8: season " + month, x.season(month), seasons[month]);
        }
        CHECK.refuses("8: 12", ELEMENT, () -> x.season(12));
        int[] years = {100, 150, 99, 100, 150, 99, 100};
        for (int year = 0; year < years.length; year++) {
            CHECK.same("9: year " + year, x.yearPercent(year), years[year]);
        }
        CHECK.same("9: greatest int", x.yearPercent(Integer.MAX_VALUE), years[Integer.MAX_VALUE % 3]);
        CHECK.refuses("9: -1", ELEMENT, () -> x.yearPercent(-1));
        CHECK.refuses("9: least int", ELEMENT, () -> x.yearPercent(Integer.MIN_VALUE));
        for (int strange : STRANGE) {
            CHECK.refuses("8: " + strange, ELEMENT, () -> x.season(strange));
        }
    }

    private static void reaches() {
        WaterExchange x = Use.of(TEXT);
        int[][] due = {{150, 10, 0}, {99, 20, 0}, {0, 30, 0}};
        for (int reach = 0; reach < 3; reach++) {
            for (int what = 0; what < 3; what++) {
                CHECK.same("10: reach", x.reach(reach, what), due[reach][what]);
            }
        }
        CHECK.refuses("10: what 3", ELEMENT, () -> x.reach(0, 3));
        CHECK.refuses("10: reach 3", INDEX, () -> x.reach(3, 0));
        CHECK.refuses("10: both wrong", INDEX, () -> x.reach(3, 3));
        for (int strange : STRANGE) {
            CHECK.refuses("10: reach", INDEX, () -> x.reach(strange, 0));
            CHECK.refuses("10: what", ELEMENT, () -> x.reach(0, strange));
            CHECK.refuses("11: reach", INDEX, () -> x.coming(strange));
        }
        CHECK.refuses("11: reach 3", INDEX, () -> x.coming(3));
        CHECK.refuses("11: no reaches", INDEX, () -> new WaterExchange().coming(0));
        coming();
    }

    private static void coming() {
        WaterExchange x = Use.of("reach 99 0;season 100 50 200 33;years 100 150 99;right 0 0 1 50 keeps 100;");
        CHECK.same("11: month 0", x.coming(0), 99);
        x.run(1);
        CHECK.same("11: 99 * 50 / 100", x.coming(0), 49);
        x.run(2);
        CHECK.same("11: 99 * 33 / 100", x.coming(0), 32);
        x.run(10);
        CHECK.same("11: 49 * 150 / 100, twice rounded down", x.coming(0), 73);
        CHECK.same("11: time", x.count(5), 13);
        x.release(0, 0, 20);
        x.release(0, 0, 5);
        CHECK.same("10: released", x.reach(0, 2), 25);
        CHECK.same("11: and what was released", x.coming(0), 98);
        x.run(1);
        CHECK.same("10: what was released is used up", x.reach(0, 2), 0);
        x.run(23);
        CHECK.same("11: the first year again", x.coming(0), 49);
    }

    private static void accounts() {
        WaterExchange x = Use.of(TEXT);
        x.transfer(0, 0, 500);
        x.transfer(1, 0, 7);
        CHECK.same("12: paid", x.balance(0), -507);
        CHECK.same("12: got", x.balance(1), 7);
        CHECK.same("12: got", x.balance(2), 500);
        x.setKeep(2, 50);
        x.run(2);
        CHECK.same("13: account 0", x.bank(0), 0);
        CHECK.refuses("12: 3", INDEX, () -> x.balance(3));
        CHECK.refuses("13: 3", INDEX, () -> x.bank(3));
        for (int strange : STRANGE) {
            CHECK.refuses("12: account", INDEX, () -> x.balance(strange));
            CHECK.refuses("13: account", INDEX, () -> x.bank(strange));
        }
        WaterExchange y = Use.of("reach 100 0;accounts 2;loss 10;right 1 0 1 25 keeps 50;");
        y.run(1);
        CHECK.same("13: 12 banked, 2 lost", y.bank(1), 10);
        y.run(1);
        CHECK.same("13: 22 less 3", y.bank(1), 19);
    }

    private static void rights() {
        WaterExchange x = Use.of(TEXT);
        int[][] due = {{2, 0, 50, 80, 40, 1, 30, 0, 0, 0}, {1, 2, 9, 70, 0, 2, 0, 0, 0, 0}, {1, 1, 99, 60, 0, 1, 1, 0, 0, 0}};
        for (int right = 0; right < 3; right++) {
            for (int what = 0; what < 10; what++) {
                CHECK.same("14: right " + right + " " + what, x.right(right, what), due[right][what]);
            }
        }
        CHECK.refuses("14: what 10", ELEMENT, () -> x.right(0, 10));
        CHECK.refuses("14: right 3", INDEX, () -> x.right(3, 0));
        CHECK.refuses("14: both wrong", INDEX, () -> x.right(3, 10));
        for (int strange : STRANGE) {
            CHECK.refuses("14: right", INDEX, () -> x.right(strange, 0));
            CHECK.refuses("14: what", ELEMENT, () -> x.right(0, strange));
            CHECK.same("15: strange", x.bySeniority(strange), -1);
        }
        sums();
        CHECK.same("15: 0", x.bySeniority(0), 1);
        CHECK.same("15: 1", x.bySeniority(1), 0);
        CHECK.same("15: 2", x.bySeniority(2), 2);
        CHECK.same("15: 3", x.bySeniority(3), -1);
        x.swap(1, 2);
        CHECK.same("15: swapped 0", x.bySeniority(0), 2);
        CHECK.same("15: swapped 2", x.bySeniority(2), 1);
        CHECK.same("15: none", new WaterExchange().bySeniority(0), -1);
    }

    private static void sums() {
        WaterExchange x = Use.of("reach 60 0;reach 0 0;accounts 2;right 0 0 1 50 returns 50 1;right 0 0 2 20;"
                + "lease 0 1 0 20 1 1;");
        x.run(1);
        CHECK.same("14: lease 10 and own 30", x.right(0, 7), 40);
        CHECK.same("14: returned", x.right(0, 8), 15);
        CHECK.same("14: not cut", x.right(0, 9), 0);
        CHECK.same("14: all of 20", x.right(1, 7), 20);
        x.run(2);
        CHECK.same("14: then 50 a month", x.right(0, 7), 140);
        CHECK.same("14: then 25 a month", x.right(0, 8), 65);
        CHECK.same("14: 10 of 20 twice", x.right(1, 7), 40);
        CHECK.same("14: cut twice", x.right(1, 9), 2);
        x.lease(1, 1, 0, 10, 1, 9);
        x.setMinimum(0, 60);
        x.run(1);
        CHECK.same("14: two claims cut, one month", x.right(1, 9), 3);
    }

    private static void leasesAndOptions() {
        WaterExchange x = Use.of(TEXT);
        int[][] leases = {{0, 1, 2, 40, 9, 3}, {2, 0, 0, 50, 8, 4}};
        int[][] options = {{1, 2, 1, 100, 30, 6, 0}, {0, 0, 2, 99, 20, 5, 0}};
        for (int i = 0; i < 2; i++) {
            for (int what = 0; what < 6; what++) {
                CHECK.same("16: lease", x.leaseField(i, what), leases[i][what]);
            }
            for (int what = 0; what < 7; what++) {
                CHECK.same("17: option", x.optionField(i, what), options[i][what]);
            }
        }
        x.run(3);
        CHECK.same("16: the next one moves up", x.leaseField(0, 0), 2);
        CHECK.same("16: months left", x.leaseField(0, 5), 1);
        CHECK.refuses("16: lease 1", INDEX, () -> x.leaseField(1, 0));
        CHECK.refuses("16: what 6", ELEMENT, () -> x.leaseField(0, 6));
        CHECK.refuses("16: both wrong", INDEX, () -> x.leaseField(1, 6));
        CHECK.refuses("17: option 2", INDEX, () -> x.optionField(2, 0));
        CHECK.refuses("17: what 7", ELEMENT, () -> x.optionField(0, 7));
        CHECK.refuses("17: both wrong", INDEX, () -> x.optionField(2, 7));
        for (int strange : STRANGE) {
            CHECK.refuses("16: lease", INDEX, () -> x.leaseField(strange, 0));
            CHECK.refuses("16: what", ELEMENT, () -> x.leaseField(0, strange));
            CHECK.refuses("17: option", INDEX, () -> x.optionField(strange, 0));
            CHECK.refuses("17: what", ELEMENT, () -> x.optionField(0, strange));
        }
        x.run(20);
        CHECK.same("17: 150 in month 23", x.optionField(0, 6), 0);
        x.run(1);
        CHECK.same("17: 99 is less than 100", x.optionField(0, 6), 1);
        CHECK.same("17: 99 is not less than 99", x.optionField(1, 6), 0);
    }
}
