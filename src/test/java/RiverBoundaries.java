import java.util.function.IntConsumer;

/** The terms of river, accounts, rights, leases and options, and promises 7 to 17, which tell of them. */
final class RiverBoundaries {
    private static final int BAD_NUMBER = Loading.BAD_NUMBER;
    private static final String SIX = "reach 9 0;".repeat(6);

    private final Boundary b;
    private final Loading text;

    RiverBoundaries(Boundary b) {
        this.b = b;
        this.text = new Loading(b);
    }

    void all() {
        reaches();
        months();
        percentages();
        comingWater();
        accounts();
        rights();
        priorities();
        returns();
        leases();
        options();
        exercises();
        counts();
        seasonAndYear();
        reachFields();
        accountFields();
        rightFields();
        seniority();
        leaseFields();
        optionFields();
    }

    private void noOther(int end, IntConsumer call) {
        for (int what : new int[] {-1, end, end + 1, Integer.MIN_VALUE, Integer.MAX_VALUE}) {
            b.noElement("what " + what, () -> call.accept(what));
        }
    }

    // ---- the river

    private void reaches() {
        b.terms("It has 1 to 6 reaches, numbered from 0 downstream.");
        WaterExchange one = text.correct("reach 9 0;");
        one.run(1);
        b.same("one reach", one.outflow(), 9);
        b.noNumber("no reach 1 of one", () -> one.gauge(1, 0));
        b.noState("no month runs without reaches", () -> new WaterExchange().run(1));
        WaterExchange six = text.correct(SIX + "right 0 0 2 5;right 0 5 3 7;");
        six.run(1);
        b.same("reach 0 is the upper end", Use.riverOf(six), "4>13>22>31>40>42");
        b.noNumber("no reach 6 of six", () -> six.gauge(6, 0));
        text.wrong(SIX, "reach 9 0;", Loading.TOO_MANY);
        b.terms("Each reach has an inflow (0 to 999) and a minimum (0 to 999) that should stay at its gauge, "
                + "which is at its end.");
        text.range(Line.REACH, 0);
        text.range(Line.REACH, 1);
        WaterExchange x = text.correct("reach 0 999;reach 999 0;right 0 1 1 999;");
        b.same("least inflow", x.reach(0, 0), 0);
        b.same("greatest minimum", x.reach(0, 1), 999);
        b.same("greatest inflow", x.reach(1, 0), 999);
        b.same("least minimum", x.reach(1, 1), 0);
        b.same("the minimum above its claims does not stop them", x.run(1), 999);
        b.same("a minimum of 999 at an inflow of 999", Use.of("reach 999 999;right 0 0 1 9;").run(1), 0);
        b.same("a minimum of 998 at an inflow of 999", Use.of("reach 999 998;right 0 0 1 9;").run(1), 1);
    }

    private void months() {
        b.terms("Months are counted from 0; month t belongs to year t / 12 (rounded down).");
        WaterExchange x = text.correct("reach 100 0;season 50;years 10 20 30;");
        int[] coming = {5, 10, 10, 10, 10, 10, 10, 10, 10, 10, 10, 10, 10, 20, 20, 20, 20, 20, 20, 20, 20, 20, 20, 20, 15};
        for (int month = 0; month < coming.length; month++) {
            b.same("the time", x.count(5), month);
            b.same("month " + month, x.coming(0), coming[month]);
            x.run(1);
            b.same("it came in month " + month, x.gauge(0, 0), coming[month]);
            b.same("told of month " + month, x.history(0, 0), month);
        }
    }

    private void percentages() {
        b.terms("There are 12 season percentages (0 to 200), one for each month of a year, and 1 to 5 year "
                + "percentages (0 to 200), which are used one after the other and again from the first one on.");
        for (int number = 0; number < 12; number++) {
            text.range(Line.SEASON, number);
        }
        for (int number = 0; number < 5; number++) {
            text.range(Line.YEARS, number);
        }
        WaterExchange x = text.correct("reach 100 0;season 1 2 3 4 5 6 7 8 9 10 11 12;");
        for (int month = 0; month < 25; month++) {
            b.same("season of month " + month, x.coming(0), month % 12 + 1);
            x.run(1);
        }
        for (int years = 1; years <= 5; years++) {
            WaterExchange y = text.correct("reach 100 0;years " + "10 20 30 40 50".substring(0, 3 * years - 1) + ";");
            for (int year = 0; year < 11; year++) {
                b.same(years + " years, year " + year, y.coming(0), year % years * 10 + 10);
                b.same(years + " years, told of year " + year, y.yearPercent(year), year % years * 10 + 10);
                y.run(12);
            }
        }
        b.same("least", text.correct("reach 999 0;season 0;years 200;").coming(0), 0);
        b.same("least", text.correct("reach 999 0;season 200;years 0;").coming(0), 0);
        b.same("greatest", text.correct("reach 999 0;season 200;years 200;").coming(0), 3996);
    }

    private void comingWater() {
        b.terms("In a month, what comes into a reach is inflow * season percentage / 100, rounded down, "
                + "then times year percentage / 100, rounded down, plus what was released into it for this month.");
        int[][] cases = {{99, 50, 100, 49}, {99, 50, 150, 73}, {99, 150, 50, 74}, {1, 99, 200, 0}, {1, 100, 199, 1},
            {199, 50, 50, 49}, {3, 50, 200, 2}, {999, 199, 199, 3956}};
        for (int[] c : cases) {
            WaterExchange x = text.correct("reach " + c[0] + " 0;season " + c[1] + ";years " + c[2] + ";");
            b.same("coming", x.coming(0), c[3]);
            x.run(1);
            b.same("came", x.gauge(0, 0), c[3]);
        }
        WaterExchange y = text.correct("reach 50 0;reach 10 0;season 100 50;right 0 0 1 40 keeps 100;");
        y.run(1);
        y.release(0, 1, 7);
        b.same("what is released has no percentage", y.coming(1), 12);
        b.same("only into its reach", y.coming(0), 25);
        y.run(1);
        b.same("it came", y.gauge(1, 0), 12);
        b.same("for this month alone", y.coming(1), 10);
    }

    // ---- accounts

    private void accounts() {
        b.terms("There are at most 5 accounts, numbered from 0.");
        text.range(Line.ACCOUNTS, 0);
        WaterExchange five = text.correct("reach 1 1;accounts 5;right 4 0 1 1;");
        b.same("the last one", five.balance(4), 0);
        b.noNumber("no account 5", () -> five.balance(5));
        b.noNumber("no account -1", () -> five.balance(-1));
        b.terms("Each has a balance of money (at first 0; it can be below 0) and a bank of water (at first 0).");
        for (int account = 0; account < 5; account++) {
            b.same("balance", five.balance(account), 0);
            b.same("bank", five.bank(account), 0);
        }
        five.transfer(0, 0, 9999);
        b.same("below 0", five.balance(0), -9999);
        b.same("above 0", five.balance(4), 9999);
        WaterExchange x = text.correct("reach 1 1;accounts 2;right 0 0 1 1;");
        x.transfer(0, 1, 1);
        b.same("one below 0", x.balance(1), -1);
    }

    // ---- rights

    private void rights() {
        b.terms("There are at most 10 rights, numbered from 0.");
        StringBuilder ten = new StringBuilder("reach 999 0;");
        for (int i = 0; i < 10; i++) {
            ten.append("right 0 0 ").append(99 - i).append(' ').append(i + 1).append(';');
        }
        WaterExchange x = text.correct(ten.toString());
        for (int right = 0; right < 10; right++) {
            b.same("amount of " + right, x.right(right, 3), right + 1);
        }
        b.same("all of them claim", x.run(1), 55);
        b.noNumber("no right 10", () -> x.right(10, 0));
        text.wrong(ten.toString(), "right 0 0 1 1;", Loading.TOO_MANY);
        b.terms("an amount (1 to 999 a month)");
        text.range(Line.RIGHT, 3);
        b.same("least", text.correct("reach 999 0;season 200;right 0 0 1 1;").run(1), 1);
        b.same("greatest", text.correct("reach 999 0;season 200;right 0 0 1 999;").run(1), 999);
        b.terms("and a keep percentage (0 to 100).");
        text.range(Line.KEEPS, 0);
        text.range(Line.BOTH, 0);
        WaterExchange least = text.correct("reach 99 0;right 0 0 1 99 keeps 0;");
        least.run(1);
        b.same("least", least.bank(0), 0);
        WaterExchange most = text.correct("reach 99 0;right 0 0 1 99 keeps 100;");
        most.run(1);
        b.same("greatest", most.bank(0), 99);
    }

    private void priorities() {
        b.terms("a priority (1 to 99; all are different; a lower one is more senior)");
        text.range(Line.RIGHT, 2);
        WaterExchange x = text.correct("reach 5 0;right 0 0 99 5;right 0 0 1 4;right 0 0 50 3;");
        x.run(1);
        b.same("1, 50 and 99", Use.claimsOf(x), "r1:4/4 r2:1/3 r0:0/5");
        text.wrong("reach 5 0;right 0 0 99 5;right 0 0 ", "99 5;", Loading.TWICE);
    }

    private void returns() {
        b.terms("a return percentage (0 to 90) with the reach into which it returns (its own one or one further down)");
        text.range(Line.RETURNS, 0);
        for (int own = 0; own < 6; own++) {
            for (int into = 0; into < 6; into++) {
                String before = SIX + "right 0 " + own + " 1 9 returns 90 ";
                if (into < own) {
                    text.wrong(before, into + ";", BAD_NUMBER);
                } else {
                    b.same("the reach", text.correct(before + into + ";").right(0, 5), into);
                }
            }
            text.wrong(SIX + "right 0 " + own + " 1 9 returns 0 ", "6;", BAD_NUMBER);
        }
        WaterExchange least = text.correct("reach 99 0;right 0 0 1 99 returns 0 0;");
        least.run(1);
        b.same("nothing returns", least.outflow(), 0);
        WaterExchange most = text.correct("reach 99 0;right 0 0 1 90 returns 90 0;");
        most.run(1);
        b.same("81 of 90 return", most.outflow(), 90);
        WaterExchange lowest = text.correct("reach 99 0;" + SIX.substring(10) + "right 0 0 1 90 returns 90 5;");
        lowest.run(1);
        b.same("at the lower end", Use.riverOf(lowest), "9>18>27>36>45>135");
    }

    // ---- leases and options

    private void leases() {
        b.terms("At most 8 leases run at a time; they are numbered from 0 in the order in which they were made.");
        StringBuilder seven = new StringBuilder(Line.RIGHTS);
        for (int i = 0; i < 7; i++) {
            seven.append("lease 0 0 0 ").append(i + 1).append(" 0 9;");
        }
        WaterExchange x = text.correct(seven.toString());
        b.same("those of the text stand ahead", x.lease(1, 0, 0, 8, 0, 9), 7);
        for (int lease = 0; lease < 8; lease++) {
            b.same("volume of " + lease, x.leaseField(lease, 3), lease + 1);
        }
        b.noState("a ninth one", () -> x.lease(1, 0, 0, 9, 0, 9));
        text.wrong(seven + "lease 0 0 0 8 0 9;", "lease 0 0 0 9 0 9;", Loading.TOO_MANY);
        x.endLease(3);
        b.same("at a time: one ended", x.lease(1, 0, 0, 10, 0, 9), 7);
        b.terms("it has a volume (1 to 999), a price (0 to 99) and a number of months that are left (1 to 36).");
        for (int number = 3; number < 6; number++) {
            text.range(Line.LEASE, number);
        }
        WaterExchange y = text.correct("reach 999 0;accounts 2;right 0 0 1 999;lease 0 1 0 999 99 36;");
        y.run(1);
        b.same("greatest volume and price", y.balance(0), 999 * 99);
        b.same("months left", y.leaseField(0, 5), 35);
        y.run(34);
        b.same("the last month", y.leaseField(0, 5), 1);
        y.run(1);
        b.same("36 months were run", y.count(3), 0);
    }

    private void options() {
        b.terms("There are at most 6 options, numbered from 0.");
        StringBuilder six = new StringBuilder("reach 9 0;");
        for (int i = 0; i < 7; i++) {
            six.append("right 0 0 ").append(i + 1).append(" 1;");
        }
        for (int i = 0; i < 6; i++) {
            six.append("option ").append(i).append(" 0 0 1 1 ").append(i).append(';');
        }
        WaterExchange x = text.correct(six.toString());
        for (int option = 0; option < 6; option++) {
            b.same("strike of " + option, x.optionField(option, 5), option);
        }
        b.noNumber("no option 6", () -> x.optionField(6, 0));
        text.wrong(six.toString(), "option 6 0 0 1 1 1;", Loading.TOO_MANY);
        b.terms("it has a trigger (1 to 200), a premium (0 to 999) and a strike (0 to 99).");
        for (int number = 3; number < 6; number++) {
            text.range(Line.OPTION, number);
        }
        WaterExchange y = text.correct("reach 999 0;years 199;accounts 2;right 0 0 1 999;option 0 1 0 200 999 99;");
        y.run(1);
        b.same("greatest trigger, premium and strike", y.balance(0), 999 + 999 * 99);
        WaterExchange z = text.correct("reach 999 0;years 0;accounts 2;right 0 0 1 999;option 0 1 0 1 0 0;");
        b.same("least trigger", z.optionField(0, 6), 1);
        z.run(1);
        b.same("least premium and strike", z.balance(0), 0);
        b.terms("There is at most one option of a right.");
        text.correct(Line.RIGHTS + "option 0 0 0 1 1 1;option 1 0 0 1 1 1;");
        text.wrong(Line.RIGHTS + "option 1 0 0 1 1 1;option ", "1 1 1 2 2 2;", Loading.TWICE);
    }

    private void exercises() {
        b.terms("It is exercised in each month whose year percentage is less than the trigger.");
        String river = "reach 100 0;right 0 0 1 9;option 0 0 0 80 0 0;";
        String[] years = {"years 79;", "years 80;", "years 81;"};
        String[] due = {"o0:9/9", "r0:9/9", "r0:9/9"};
        for (int i = 0; i < 3; i++) {
            WaterExchange x = text.correct(years[i] + river);
            x.run(1);
            b.same(years[i], Use.claimsOf(x), due[i]);
        }
        WaterExchange x = text.correct("years 80 79;season 0 0 0;" + river);
        for (int month = 0; month < 26; month++) {
            b.same("the season does not matter, month " + month, x.optionField(0, 6), month / 12 % 2);
            x.run(1);
            b.same("month " + month, x.claim(0, 0), month / 12 % 2 == 1 ? 2 : 0);
        }
    }

    // ---- promises 7 to 13

    private void counts() {
        b.promise(7, "Throws NoSuchElementException if what is not 0 to 7");
        WaterExchange x = text.correct(Line.RIGHTS + "loss 50;years 1 2 3 4 5;lease 0 0 0 1 1 1;"
                + "lease 0 0 0 1 1 1;option 0 0 0 1 1 1;");
        int[] due = {3, 3, 2, 2, 1, 0, 50, 5};
        for (int what = 0; what < 8; what++) {
            b.same("what " + what, x.count(what), due[what]);
        }
        x.run(2);
        b.same("leases that have ended", x.count(3), 0);
        b.same("the time", x.count(5), 2);
        noOther(8, x::count);
        noOther(8, new WaterExchange()::count);
    }

    private void seasonAndYear() {
        b.promise(8, "Returns the season percentage of a month of a year (0 to 11); "
                + "NoSuchElementException is thrown for any other month.");
        WaterExchange x = text.correct("season 1 2 3 4 5 6 7 8 9 10 11 0;years 9 8 7;");
        for (int month = 0; month < 12; month++) {
            b.same("month " + month, x.season(month), (month + 1) % 12);
        }
        noOther(12, x::season);
        b.promise(9, "Returns the year percentage of a year, from 0 on; "
                + "NoSuchElementException is thrown if year is negative.");
        int[] years = {0, 1, 2, 3, 5, 300, 2147483645, 2147483646, Integer.MAX_VALUE};
        for (int year : years) {
            b.same("year " + year, x.yearPercent(year), 9 - year % 3);
        }
        b.noElement("-1", () -> x.yearPercent(-1));
        b.noElement("-3", () -> x.yearPercent(-3));
        b.noElement("least int", () -> x.yearPercent(Integer.MIN_VALUE));
    }

    private void reachFields() {
        b.promise(10, "2 what is released into it for the next month that is run");
        WaterExchange x = text.correct("reach 99 9;reach 50 5;right 0 0 1 40 keeps 100;");
        b.same("nothing at first", x.reach(1, 2), 0);
        x.run(1);
        x.release(0, 1, 30);
        x.release(0, 1, 10);
        b.same("all that is released", x.reach(1, 2), 40);
        b.same("nothing into the other reach", x.reach(0, 2), 0);
        b.promise(11, "Returns what comes into the reach in the next month that is run.");
        b.same("with what is released", x.coming(1), 90);
        x.run(1);
        b.same("without it again", x.coming(1), 50);
        b.noNumber("no reach 2", () -> x.coming(2));
        b.promise(10, "Throws NoSuchElementException if what is not 0 to 2");
        b.same("used up", x.reach(1, 2), 0);
        b.same("inflow", x.reach(1, 0), 50);
        b.same("minimum", x.reach(1, 1), 5);
        noOther(3, what -> x.reach(1, what));
    }

    private void accountFields() {
        b.promise(12, "Returns the balance of the account.");
        WaterExchange x = text.correct("reach 999 0;season 200;years 200;accounts 2;loss 50;right 0 0 1 999 keeps 100;"
                + "right 0 0 2 999;lease 1 1 0 999 99 36;");
        x.run(36);
        b.same("36 months of 999 * 99", x.balance(0), 36L * 999 * 99);
        b.same("below 0", x.balance(1), -36L * 999 * 99);
        b.noNumber("no account 2", () -> x.balance(2));
        b.promise(13, "Returns the bank of the account.");
        b.same("half of 998 and 999, rounded down", x.bank(0), 998);
        b.same("nothing of a lease", x.bank(1), 0);
        b.noNumber("no account 2", () -> x.bank(2));
    }

    // ---- promises 14 to 17

    private void rightFields() {
        b.promise(14, "7 what all of its claims have got so far, 8 what returned of it so far, "
                + "9 the number of months so far in which a claim of it got less than it wanted");
        WaterExchange x = text.correct("reach 50 0;right 0 0 7 40 returns 50 0;lease 0 0 0 10 0 1;right 0 0 8 60;");
        for (int what = 7; what < 10; what++) {
            b.same("none so far " + what, x.right(0, what), 0);
        }
        x.run(1);
        b.same("5 of the lease and 30", x.right(0, 7), 35);
        b.same("of the lease nothing returns", x.right(0, 8), 15);
        b.same("got all", x.right(0, 9), 0);
        b.same("30 of 60", x.right(1, 9), 1);
        x.run(1);
        b.same("and 40", x.right(0, 7), 75);
        b.same("and 20", x.right(0, 8), 35);
        b.same("0 of 20, months are told once", x.right(1, 9), 2);
        b.promise(14, "Throws NoSuchElementException if what is not 0 to 9");
        b.same("what 9", x.right(0, 9), 0);
        noOther(10, what -> x.right(0, what));
    }

    private void seniority() {
        b.promise(15, "Returns the k-th right by ascending priorities; NONE if there is none.");
        WaterExchange x = text.correct("reach 9 0;right 0 0 99 1;right 0 0 1 1;right 0 0 50 1;");
        int[] due = {1, 2, 0, -1, -1};
        for (int k = 0; k < due.length; k++) {
            b.same("k " + k, x.bySeniority(k), due[k]);
        }
        for (int k : new int[] {-1, -2, 10, Integer.MIN_VALUE, Integer.MAX_VALUE}) {
            b.same("k " + k, x.bySeniority(k), -1);
        }
        b.same("without rights", new WaterExchange().bySeniority(0), -1);
        x.swap(0, 1);
        b.same("behind a swap", x.bySeniority(0), 0);
        x.undo();
        b.same("behind its undo", x.bySeniority(0), 1);
        StringBuilder ten = new StringBuilder("reach 9 0;");
        for (int i = 0; i < 10; i++) {
            ten.append("right 0 0 ").append(99 - i).append(" 1;");
        }
        WaterExchange y = text.correct(ten.toString());
        for (int k = 0; k < 10; k++) {
            b.same("of ten " + k, y.bySeniority(k), 9 - k);
        }
        b.same("the eleventh of ten", y.bySeniority(10), -1);
    }

    private void leaseFields() {
        b.promise(16, "Throws NoSuchElementException if what is not 0 to 5");
        WaterExchange x = text.correct(Line.RIGHTS + "lease 1 2 1 999 99 2;lease 0 1 2 1 0 36;");
        b.same("months that are left", x.leaseField(0, 5), 2);
        noOther(6, what -> x.leaseField(0, what));
        x.run(1);
        b.same("one less", x.leaseField(0, 5), 1);
        x.run(1);
        b.same("the next one in its place", x.leaseField(0, 5), 34);
        b.noNumber("no lease 1", () -> x.leaseField(1, 0));
    }

    private void optionFields() {
        b.promise(17, "6 is 1 if it is exercised in the next month that is run, and 0 otherwise");
        WaterExchange x = text.correct(Line.RIGHTS + "years 100 99;option 0 0 0 100 1 1;option 1 0 0 99 1 1;");
        b.same("100 is not less", x.optionField(0, 6), 0);
        x.run(11);
        b.same("month 11 is next", x.optionField(0, 6), 0);
        x.run(1);
        b.same("month 12 is next", x.optionField(0, 6), 1);
        b.same("99 is not less", x.optionField(1, 6), 0);
        b.promise(17, "Throws NoSuchElementException if what is not 0 to 6");
        b.same("what 6", x.optionField(0, 6), 1);
        noOther(7, what -> x.optionField(0, what));
    }
}
