import java.util.function.IntConsumer;

/** The terms of claims, flows, settlement, the end of a month and the history, and promises 18 to 34. */
final class MonthBoundaries {
    private static final String HALF = "reach 50 0;right 0 0 7 40;right 0 0 3 30;";

    private final Boundary b;

    MonthBoundaries(Boundary b) {
        this.b = b;
    }

    void all() {
        orderOfClaims();
        leaseClaims();
        optionClaims();
        othersWant();
        ownClaims();
        flows();
        greatestNumbers();
        lowGauges();
        payments();
        bankedWater();
        premiums();
        endOfLeases();
        losses();
        endOfMonth();
        history();
        claims();
        gauges();
        calls();
        dryGauges();
        served();
        outflowAndBalance();
        meanGot();
        gotAndEarned();
        waterSums();
        accountsRight();
        richest();
    }

    private static WaterExchange ran(String text, int months) {
        WaterExchange x = Use.of(text);
        x.run(months);
        return x;
    }

    private void noOther(int end, IntConsumer call) {
        for (int what : new int[] {-1, end, end + 1, Integer.MIN_VALUE, Integer.MAX_VALUE}) {
            b.noElement("what " + what, () -> call.accept(what));
        }
    }

    // ---- claims

    private void orderOfClaims() {
        b.terms("In each month, each right makes claims, by ascending priorities.");
        WaterExchange x = ran("reach 10 0;right 0 0 99 4;right 0 0 1 5;right 0 0 2 3;", 1);
        b.same("1, 2 and 99", Use.claimsOf(x), "r1:5/5 r2:3/3 r0:2/4");
        x.swap(0, 1);
        x.run(1);
        b.same("as they are now", Use.claimsOf(x), "r0:4/4 r2:3/3 r1:3/5");
        b.same("without water too", Use.claimsOf(ran("reach 0 0;right 0 0 9 1;right 0 0 8 2;", 1)), "r1:0/2 r0:0/1");
    }

    private void leaseClaims() {
        b.terms("For each of its leases, by number, there is a claim with the smaller one of the volume "
                + "and what is left; this is taken from what is left.");
        String river = "reach 99 0;right 0 0 1 50;";
        b.same("less than the amount", Use.claimsOf(ran(river + "lease 0 0 0 49 0 1;", 1)), "l0:49/49 r0:1/1");
        b.same("the amount", Use.claimsOf(ran(river + "lease 0 0 0 50 0 1;", 1)), "l0:50/50 r0:0/0");
        b.same("more than the amount", Use.claimsOf(ran(river + "lease 0 0 0 51 0 1;", 1)), "l0:50/50 r0:0/0");
        b.same("by number", Use.claimsOf(ran(river + "lease 0 0 0 20 0 1;lease 0 0 0 31 0 1;lease 0 0 0 9 0 1;", 1)),
                "l0:20/20 l0:30/30 l0:0/0 r0:0/0");
        b.same("taken, though not got", Use.claimsOf(ran("reach 9 0;right 0 0 1 50;lease 0 0 0 20 0 1;", 1)),
                "l0:9/20 r0:0/30");
        b.same("of this right alone", Use.claimsOf(ran(river + "right 0 0 2 9;lease 1 0 0 5 0 1;", 1)),
                "r0:50/50 l1:5/5 r1:4/4");
    }

    private void optionClaims() {
        b.terms("Then, if its option is exercised, there is a claim of the option with all that is left, and nothing "
                + "is left; otherwise there is a claim of the right itself with all that is left. (A claim can have 0.)");
        String river = "reach 99 0;years 50;right 0 0 1 50;";
        b.same("exercised", Use.claimsOf(ran(river + "option 0 0 0 51 0 0;", 1)), "o0:49/50");
        b.same("not exercised", Use.claimsOf(ran(river + "option 0 0 0 50 0 0;", 1)), "r0:49/50");
        b.same("exercised, 1 is left", Use.claimsOf(ran(river + "lease 0 0 0 48 0 1;option 0 0 0 51 0 0;", 1)),
                "l0:48/48 o0:1/2");
        b.same("exercised, nothing is left", Use.claimsOf(ran(river + "lease 0 0 0 50 0 1;option 0 0 0 51 0 0;", 1)),
                "l0:49/50 o0:0/0");
        b.same("not exercised, nothing is left", Use.claimsOf(ran(river + "lease 0 0 0 50 0 1;", 1)),
                "l0:49/50 r0:0/0");
    }

    private void othersWant() {
        b.terms("wants only a part of its number: its number * (100 - return percentage) / 100, rounded down; "
                + "nothing of it is banked, and it returns nothing.");
        int[][] cases = {{0, 1, 1}, {1, 1, 0}, {50, 1, 0}, {50, 3, 1}, {90, 9, 0}, {90, 10, 1}, {33, 100, 67}, {90, 999, 99}};
        for (int[] c : cases) {
            String river = "reach 999 0;years 99;right 0 0 1 999 returns " + c[0] + " 0 keeps 100;";
            WaterExchange x = ran(river + "lease 0 0 0 " + c[1] + " 0 1;", 1);
            b.same("a lease wants", x.claim(0, 4), c[2]);
            b.same("a lease got", x.claim(0, 5), c[2]);
            b.same("nothing is banked", x.claim(0, 6), 0);
            b.same("nothing returns", x.claim(0, 7), 0);
        }
        WaterExchange y = ran("reach 999 0;years 99;right 0 0 1 999 returns 50 0 keeps 100;option 0 0 0 100 0 0;", 1);
        b.same("an option wants 499 of 999", y.claim(0, 4), 499);
        b.same("nothing is banked", y.claim(0, 6) + y.bankedInAll(), 0);
        b.same("nothing returns", y.claim(0, 7) + y.right(0, 8), 0);
    }

    private void ownClaims() {
        b.terms("of what it gets, * keep percentage / 100, rounded down, is banked, and of the rest, "
                + "* return percentage / 100, rounded down, returns.");
        // keep percentage, return percentage, amount, banked, returned
        int[][] cases = {{0, 0, 9, 0, 0}, {100, 90, 9, 9, 0}, {50, 50, 1, 0, 0}, {50, 50, 3, 1, 1}, {99, 90, 1, 0, 0},
            {99, 90, 101, 99, 1}, {33, 67, 100, 33, 44}, {1, 90, 99, 0, 89}, {0, 90, 999, 0, 899}, {0, 10, 9, 0, 0}};
        for (int[] c : cases) {
            WaterExchange x = ran("reach 999 0;right 0 0 1 " + c[2] + " returns " + c[1] + " 0 keeps " + c[0] + ";", 1);
            b.same("banked", x.claim(0, 6), c[3]);
            b.same("returned", x.claim(0, 7), c[4]);
            b.same("the bank", x.bank(0), c[3]);
            b.same("wants all of its number", x.claim(0, 4), c[2]);
        }
    }

    // ---- flows

    private void flows() {
        b.terms("The flow at a gauge is what comes into its reach and all reaches above, minus what is diverted "
                + "there and above, plus what returns there and above.");
        WaterExchange x = ran("reach 100 0;reach 10 0;reach 1 0;right 0 1 1 50 returns 40 2;", 1);
        b.same("before all claims", x.gauge(0, 1) * 1000000 + x.gauge(1, 1) * 1000 + x.gauge(2, 1), 100110111);
        b.same("after all claims", Use.riverOf(x), "100>60>81");
        b.same("down to 0", Use.riverOf(ran("reach 5 0;reach 0 0;right 0 0 1 5;", 1)), "0>0");
    }

    private static int greatest(int flow, int[] minimum, int amount, int percent, int keep, int into) {
        int best = 0;
        for (int x = 1; x <= amount; x++) {
            int returned = (x - x * keep / 100) * percent / 100;
            boolean fits = true;
            for (int gauge = 0; gauge < minimum.length; gauge++) {
                fits &= flow - x + (gauge >= into ? returned : 0) >= minimum[gauge];
            }
            best = fits ? x : best;
        }
        return best;
    }

    private void greatestNumbers() {
        b.terms("each gets the greatest number, at most what it wants, with which the flow at no gauge from its reach "
                + "on downstream that it would lower (beyond what it returns there or above) would be less than the "
                + "minimum there.");
        int[] some = {0, 1, 49, 50, 89, 90};
        for (int percent : some) {
            for (int keep : new int[] {0, 1, 50, 99, 100}) {
                for (int into = 0; into < 2; into++) {
                    for (int least = 0; least <= 100; least += 20) {
                        int[] minimum = {100 - least, 97};
                        WaterExchange x = ran("reach 100 " + minimum[0] + ";reach 0 97;right 0 0 1 90 returns "
                                + percent + " " + into + " keeps " + keep + ";", 1);
                        b.same("greatest number", x.claim(0, 5), greatest(100, minimum, 90, percent, keep, into));
                    }
                }
            }
        }
        b.same("down to the minimum", ran("reach 100 60;right 0 0 1 41;", 1).claim(0, 5), 40);
        b.same("what it wants", ran("reach 100 60;right 0 0 1 40;", 1).claim(0, 5), 40);
        b.same("at most what it wants", ran("reach 100 60;right 0 0 1 39;", 1).claim(0, 5), 39);
        b.same("the last gauge", ran("reach 50 0;reach 50 99;right 0 0 1 41;", 1).claim(0, 5), 1);
        b.same("gauges above do not count", ran("reach 50 50;reach 50 60;right 0 1 1 41;", 1).claim(0, 5), 40);
        b.same("a lease too", ran("reach 100 60;right 0 0 1 99;lease 0 0 0 50 0 1;", 1).claim(0, 5), 40);
        b.same("one after the other", Use.claimsOf(ran(HALF, 1)), "r1:30/30 r0:20/40");
    }

    private void lowGauges() {
        b.terms("A gauge that is below its minimum already cannot be lowered at all.");
        String[] rivers = {"reach 99 100;", "reach 99 0;reach 0 100;", "reach 99 0;reach 0 0;reach 0 100;"};
        for (String river : rivers) {
            b.same(river, ran(river + "right 0 0 1 9;", 1).claim(0, 5), 0);
            b.same(river, ran(river + "right 0 0 1 9 returns 90 0;", 1).claim(0, 5), 0);
            b.same(river, ran(river + "right 0 0 1 9;lease 0 0 0 9 1 1;", 1).claim(0, 5), 0);
        }
        b.same("at its minimum neither", ran("reach 99 99;right 0 0 1 9 returns 90 0;", 1).claim(0, 5), 0);
        WaterExchange x = ran("reach 10 99;reach 90 0;right 0 1 1 99;", 1);
        b.same("only those that it lowers", x.claim(0, 5), 99);
        x = ran("reach 100 90;reach 0 105;right 0 0 1 10 returns 90 1;right 0 0 2 5;", 1);
        b.same("what others returned does not help", Use.claimsOf(x), "r0:0/10 r1:0/5");
        x = ran("reach 100 0;reach 0 98;right 0 0 1 10 returns 80 1;right 0 1 2 5;", 1);
        b.same("lowered to its minimum, no further", Use.claimsOf(x), "r0:10/10 r1:0/5");
    }

    // ---- settlement

    private void payments() {
        b.terms("When a claim of a lease gets a number, the account of the lease pays this * price to the account of "
                + "the right; for an option likewise by the strike.");
        String river = "reach 30 0;years 50;accounts 3;right 0 0 1 40 keeps 50;";
        WaterExchange x = ran(river + "lease 0 1 0 20 7 9;", 1);
        b.same("for what it got, not for what it wanted", x.balance(0), 15 * 7);
        b.same("paid", x.balance(1), -15 * 7);
        b.same("nothing got, nothing paid", ran("reach 0 0;accounts 2;right 0 0 1 9;lease 0 1 0 9 99 1;", 1).balance(0), 0);
        b.same("a price of 0", ran(river + "lease 0 1 0 20 0 9;", 1).balance(0), 0);
        b.same("an option", ran(river + "option 0 2 0 51 0 9;", 1).balance(2), -15 * 9);
        b.same("an option that is not exercised", ran(river + "option 0 2 0 50 0 9;", 1).balance(2), 0);
        b.same("to itself", ran(river + "lease 0 0 0 20 7 9;", 1).balance(0), 0);
        b.same("the right itself pays nothing", ran(river, 1).balance(0), 0);
    }

    private void bankedWater() {
        b.terms("Banked water goes to the account of the right.");
        WaterExchange x = Use.of("reach 99 0;accounts 3;right 2 0 1 20 keeps 50;lease 0 1 0 4 1 9;");
        x.run(1);
        b.same("half of 16", x.bank(2), 8);
        x.transfer(0, 0, 0);
        x.run(1);
        b.same("what was banked before stays", x.bank(2), 8);
        b.same("the account that it has now", x.bank(0), 8);
        b.same("nothing to that of the lease", x.bank(1), 0);
    }

    private void premiums() {
        b.terms("In a month of the kind 0 (t modulo 12 is 0), before the claims, the account of each option pays the "
                + "premium to the account of its right (also if both are the same).");
        WaterExchange x = Use.of("reach 0 0;accounts 2;right 0 0 1 9;right 1 0 2 9;option 0 1 0 1 9 0;"
                + "option 1 1 0 1 99 0;");
        for (int month = 0; month < 37; month++) {
            b.same("ahead of month " + month, x.balance(0), (month + 11) / 12 * 9);
            x.run(1);
        }
        b.same("to itself", x.balance(1), -4 * 9);
        b.holds("the sum is 0", x.areAccountsRight());
        WaterExchange y = Use.of("reach 0 0;accounts 2;right 0 0 1 9;option 0 1 0 1 9 0;");
        y.transfer(0, 1, 0);
        y.run(1);
        b.same("to the account that the right has now", y.balance(0), 0);
    }

    // ---- the end of a month

    private void endOfLeases() {
        b.terms("After all claims, each lease has one month less, and those without a month left end "
                + "(the numbers of those behind them decrease by 1).");
        WaterExchange x = Use.of("reach 9 0;right 0 0 1 9;lease 0 0 0 1 0 1;lease 0 0 0 2 0 2;lease 0 0 0 3 0 1;"
                + "lease 0 0 0 4 0 36;lease 0 0 0 5 0 1;");
        x.run(1);
        b.same("each had its claim", x.claims(), 6);
        b.same("three ended", x.count(3), 2);
        b.same("volume and months", x.leaseField(0, 3) * 100 + x.leaseField(0, 5), 201);
        b.same("volume and months", x.leaseField(1, 3) * 100 + x.leaseField(1, 5), 435);
        x.run(1);
        b.same("volume and months", x.leaseField(0, 3) * 100 + x.leaseField(0, 5), 434);
        x.run(34);
        b.same("the last claim of it", x.claims(), 2);
        b.same("none is left", x.count(3), 0);
        x.run(1);
        b.same("no claim of it any more", x.claims(), 1);
        WaterExchange all = Use.of("reach 9 0;right 0 0 1 9;" + "lease 0 0 0 1 0 1;".repeat(8));
        all.run(1);
        b.same("all of 8 end", all.count(3), 0);
    }

    private void losses() {
        b.terms("Then the bank of each account loses bank * loss / 100, rounded up; "
                + "the loss is a percentage (0 to 50).");
        // loss, amount that is banked, what is left of it
        int[][] cases = {{0, 9, 9}, {1, 1, 0}, {1, 99, 98}, {1, 100, 99}, {1, 101, 99}, {50, 1, 0}, {50, 2, 1}, {50, 3, 1},
            {50, 999, 499}, {49, 100, 51}, {33, 3, 2}, {34, 3, 1}};
        for (int[] c : cases) {
            WaterExchange x = ran("reach 999 0;loss " + c[0] + ";right 0 0 1 " + c[1] + " keeps 100;", 1);
            b.same("the bank", x.bank(0), c[2]);
            b.same("lost", x.lostInAll(), c[1] - c[2]);
        }
        new Loading(b).range(Line.LOSS, 0);
        WaterExchange two = ran("reach 99 0;accounts 2;loss 10;right 0 0 1 1 keeps 100;right 1 0 2 1 keeps 100;", 1);
        b.same("each account rounds up", two.lostInAll(), 2);
        WaterExchange empty = ran("reach 99 0;loss 50;right 0 0 1 9;", 1);
        b.same("an empty bank loses nothing", empty.lostInAll(), 0);
    }

    private void endOfMonth() {
        b.terms("Then the time increases by 1; what was released is used up.");
        WaterExchange x = Use.of("reach 9 0;reach 9 0;right 0 0 1 9 keeps 100;");
        x.run(1);
        b.same("the time", x.count(5), 1);
        x.release(0, 0, 2);
        x.release(0, 1, 3);
        x.run(2);
        b.same("the time", x.count(5), 3);
        b.same("nothing is released any more", x.reach(0, 2) + x.reach(1, 2), 0);
        b.same("it came in the first month alone", x.gauge(0, 0), 9);
        b.same("it came in the first month", x.history(1, 2), 14);
        b.same("not in the second", x.history(0, 2), 9);
    }

    // ---- history

    private void history() {
        b.terms("The latest 24 months that were run are remembered, numbered from 0 for the latest one");
        WaterExchange x = Use.of("reach 100 0;season 1 2 3 4 5 6 7 8 9 10 11 12;right 0 0 5 3;");
        for (int months = 1; months <= 26; months++) {
            x.run(1);
            int oldest = Math.max(0, months - 24);
            b.same("the latest of " + months, x.history(0, 0), months - 1);
            b.same("the oldest of " + months, x.history(months - 1 - oldest, 0), oldest);
            b.same("none behind " + months, x.history(months - oldest, 0), -1);
        }
        b.terms("its time, what all claims got, the flow at the lowest gauge after all claims, and the least priority "
                + "of a right of which a claim got less than it wanted.");
        b.same("time 25, 2 of 3 got", x.history(0, 0) * 10 + x.history(0, 1), 252);
        b.same("nothing flows out, 5 is cut", x.history(0, 2) * 10 + x.history(0, 3), 5);
        b.promise(26, "Returns that part of the history; NONE if there is no such month.");
        b.same("the oldest of 24", x.history(23, 0), 2);
        b.same("what it got", x.history(23, 1), 3);
        b.same("its flow", x.history(22, 2), 1);
        for (int ago : new int[] {24, 25, 1000, -1, Integer.MIN_VALUE, Integer.MAX_VALUE}) {
            for (int what = 0; what < 4; what++) {
                b.same("month " + ago, x.history(ago, what), -1);
            }
        }
        b.same("no month yet", Use.of(HALF).history(0, 0), -1);
        b.same("no reaches", new WaterExchange().history(0, 1), -1);
        b.promise(26, "3 the least priority (NONE if there is none)");
        b.same("got all", x.history(23, 3), -1);
        b.same("2 of 3 in month 13", x.history(12, 3), 5);
        b.same("3 of 3 in month 14", x.history(11, 3), -1);
        b.promise(26, "Throws NoSuchElementException if what is not 0 to 3");
        noOther(4, what -> x.history(0, what));
        noOther(4, what -> x.history(24, what));
        noOther(4, what -> new WaterExchange().history(0, what));
    }

    // ---- promises 18 to 25 and 27

    private void claims() {
        b.promise(18, "Returns the number of claims of the latest month that was run; 0 if there was none.");
        WaterExchange x = Use.of(HALF);
        b.same("none was run", x.claims(), 0);
        b.same("no reaches", new WaterExchange().claims(), 0);
        x.run(1);
        b.same("two", x.claims(), 2);
        x.run(5);
        b.same("of the latest one alone", x.claims(), 2);
        StringBuilder most = new StringBuilder("reach 9 0;");
        for (int i = 1; i <= 10; i++) {
            most.append("right 0 0 ").append(i).append(" 1;");
        }
        most.append("lease 4 0 0 1 0 9;".repeat(8));
        WaterExchange full = ran(most.toString(), 1);
        b.same("10 rights and 8 leases", full.claims(), 18);
        b.same("a month without rights", ran("reach 9 9;", 1).claims(), 0);
        x.undo();
        x.undo();
        b.same("none was run, as before", x.claims(), 0);
        b.promise(19, "Claims of the latest month are numbered from 0 in the order in which they were served.");
        b.same("the last of 18", full.claim(17, 1), 9);
        b.same("the first of 18", full.claim(0, 1), 0);
        b.noNumber("no claim 18", () -> full.claim(18, 0));
        b.noNumber("no claim -1", () -> full.claim(-1, 0));
        b.noNumber("no month", () -> Use.of(HALF).claim(0, 0));
        b.promise(19, "Throws NoSuchElementException if what is not 0 to 7");
        WaterExchange told = ran("reach 9 0;reach 90 60;accounts 3;right 0 0 1 9;right 2 1 2 40 returns 50 1 keeps 25;", 1);
        int[] due = {0, 1, 2, 1, 40, 40, 10, 15};
        for (int what = 0; what < 8; what++) {
            b.same("what " + what, told.claim(1, what), due[what]);
        }
        noOther(8, what -> told.claim(1, what));
        b.promise(19, "(that of the right, of the lease or of the option)");
        WaterExchange y = ran("reach 9 0;years 50;accounts 4;right 1 0 1 2;right 1 0 2 2;lease 1 2 0 1 0 1;"
                + "option 1 3 0 51 0 0;", 1);
        b.same("the accounts", y.claim(0, 2) * 100 + y.claim(1, 2) * 10 + y.claim(2, 2), 123);
    }

    private void gauges() {
        b.promise(20, "Returns that number of the latest month; 0 if there was none.");
        WaterExchange x = Use.of("reach 50 7;reach 8 9;right 0 0 3 30 returns 50 1;");
        for (int what = 0; what < 5; what++) {
            b.same("no month, " + what, x.gauge(0, what) + x.gauge(1, what), 0);
        }
        x.run(2);
        int[][] due = {{50, 50, 20, 30, 0}, {8, 58, 43, 0, 15}};
        for (int reach = 0; reach < 2; reach++) {
            for (int what = 0; what < 5; what++) {
                b.same("gauge " + reach + " " + what, x.gauge(reach, what), due[reach][what]);
            }
        }
        x.undo();
        b.same("no month again", x.gauge(0, 1), 0);
        b.promise(20, "Throws NoSuchElementException if what is not 0 to 4");
        noOther(5, what -> x.gauge(0, what));
        noOther(5, what -> x.gauge(1, what));
    }

    private void calls() {
        b.promise(21, "Returns the least priority (as it was then) of a right of which a claim got less than it wanted "
                + "in the latest month; NONE if there is none.");
        b.same("no month", Use.of(HALF).call(), -1);
        b.same("no reaches", new WaterExchange().call(), -1);
        b.same("no rights", ran("reach 0 9;", 1).call(), -1);
        b.same("all got all", ran("reach 70 0;right 0 0 7 40;right 0 0 3 30;", 1).call(), -1);
        WaterExchange x = ran(HALF, 1);
        b.same("the junior one", x.call(), 7);
        x.swap(0, 1);
        b.same("as it was then", x.call(), 7);
        x.run(1);
        b.same("as it is then", x.call(), 7);
        x.setMinimum(0, 999);
        x.run(1);
        b.same("the least of two", x.call(), 3);
        b.same("a lease of it", ran("reach 5 0;right 0 0 9 5;right 0 0 4 9;lease 0 0 0 1 0 1;", 1).call(), 4);
        b.same("who wanted 0 got no less", ran("reach 5 0;right 0 0 9 5;lease 0 0 0 5 0 1;", 1).call(), -1);
        b.same("of the latest month", ran("reach 9 0;season 0;right 0 0 9 5;", 2).call(), -1);
    }

    private void dryGauges() {
        b.promise(22, "Returns the set of the reaches at whose gauges the flow after all claims was less than the "
                + "minimum as it is now, as a bit set; 0 if there was no month.");
        String six = "reach 1 9;".repeat(6);
        WaterExchange x = Use.of(six);
        b.same("no month", x.dryGauges(), 0);
        b.same("no reaches", new WaterExchange().dryGauges(), 0);
        x.run(1);
        b.same("all of 6", x.dryGauges(), 63);
        for (int reach = 0; reach < 6; reach++) {
            x.setMinimum(reach, reach + 1);
        }
        b.same("at the minimum as it is now", x.dryGauges(), 0);
        for (int reach = 0; reach < 6; reach++) {
            x.setMinimum(reach, reach + 2);
            b.same("one above it", x.dryGauges(), 1 << reach);
            x.setMinimum(reach, reach);
        }
        x.setMinimum(0, 999);
        x.setMinimum(5, 999);
        b.same("the first and the last one", x.dryGauges(), 33);
    }

    private void served() {
        b.promise(23, "the sum of what claims got divided by the sum of what they wanted; 1.0 if this is 0.");
        b.same("no month", Use.of(HALF).served(), 1.0);
        b.same("no reaches", new WaterExchange().served(), 1.0);
        b.same("no rights", ran("reach 9 0;", 1).served(), 1.0);
        WaterExchange nothing = ran("reach 9 0;right 0 0 1 1 returns 50 0;lease 0 0 0 1 0 1;", 1);
        b.same("claims that want nothing", nothing.claims(), 2);
        b.same("claims that want nothing", nothing.served(), 1.0);
        b.same("got nothing", ran("reach 0 0;right 0 0 1 1;", 1).served(), 0.0);
        b.same("got all", ran("reach 1 0;right 0 0 1 1;", 1).served(), 1.0);
        b.same("5 of 7", ran(HALF, 1).served(), 50.0 / 70.0);
        b.same("1 of 3", ran("reach 1 0;right 0 0 1 3;", 1).served(), 1.0 / 3.0);
    }

    private void outflowAndBalance() {
        b.promise(24, "Returns the flow at the lowest gauge after all claims of the latest month; 0 if there was none, "
                + "or without reaches.");
        WaterExchange x = Use.of("reach 50 0;reach 8 0;right 0 0 3 30;");
        b.same("no month", x.outflow(), 0);
        b.same("no reaches", new WaterExchange().outflow(), 0);
        x.run(1);
        b.same("28", x.outflow(), 28);
        x.setMinimum(1, 40);
        b.same("of the latest month", x.outflow(), 28);
        b.same("one reach", ran("reach 50 0;", 1).outflow(), 50);
        b.promise(25, "(as told by gauge); true if there was no month.");
        b.holds("no month", Use.of(HALF).isBalanced());
        b.holds("no reaches", new WaterExchange().isBalanced());
        b.holds("a month", x.isBalanced());
        b.holds("with returns", ran("reach 90 0;reach 9 0;reach 9 0;right 0 0 1 60 returns 50 1 keeps 9;", 2).isBalanced());
        b.holds("with a release", releasedAndRan().isBalanced());
        b.holds("below the minimum", ran("reach 0 9;reach 0 9;right 0 0 1 9 returns 50 1;", 3).isBalanced());
        b.holds("no rights", ran("reach 9 9;", 1).isBalanced());
    }

    private static WaterExchange releasedAndRan() {
        WaterExchange x = ran("reach 90 0;reach 9 0;right 0 0 1 60 keeps 100;", 1);
        x.release(0, 1, 60);
        x.run(1);
        return x;
    }

    private void meanGot() {
        b.promise(27, "Returns the mean of what all claims got over the months of the history, as a double; "
                + "0.0 without any.");
        b.same("no month", Use.of(HALF).meanGot(), 0.0);
        b.same("no reaches", new WaterExchange().meanGot(), 0.0);
        b.same("no rights", ran("reach 9 9;", 1).meanGot(), 0.0);
        WaterExchange x = Use.of("reach 100 0;season 1;right 0 0 1 2;");
        x.run(1);
        b.same("one month", x.meanGot(), 1.0);
        x.run(1);
        b.same("two months", x.meanGot(), 1.5);
        x.run(1);
        b.same("three months", x.meanGot(), 5.0 / 3.0);
        x.run(21);
        b.same("24 months, two of the kind 0", x.meanGot(), 46.0 / 24.0);
        x.run(1);
        b.same("25 months: the first one is gone", x.meanGot(), 46.0 / 24.0);
        x.run(12);
        b.same("of the latest 24 alone", x.meanGot(), 46.0 / 24.0);
    }

    // ---- promises 28 to 34

    private void gotAndEarned() {
        b.promise(28, "(those of leases and options by their accounts; those of a right by the account that it had then).");
        WaterExchange x = Use.of("reach 99 0;years 100 50;accounts 4;right 0 0 1 20;lease 0 1 0 5 3 1;option 0 2 0 51 99 4;");
        b.same("none so far", x.got(0) + x.got(1) + x.got(2) + x.got(3), 0);
        x.run(1);
        b.same("own", x.got(0), 15);
        b.same("the lease's", x.got(1), 5);
        x.transfer(0, 3, 0);
        b.same("the account that it had then", x.got(0) * 100 + x.got(3), 1500);
        x.run(12);
        b.same("the account that it had then", x.got(0), 15);
        b.same("the account that it has now", x.got(3), 11 * 20);
        b.same("the option's", x.got(2), 20);
        b.noNumber("no account 4", () -> x.got(4));
        b.promise(29, "(without premiums).");
        b.same("5 * 3 of the lease, 20 * 4 of the option", x.earned(0), 15 + 80);
        b.noNumber("no right 1", () -> x.earned(1));
        WaterExchange y = ran("reach 0 0;accounts 2;right 0 0 1 9;option 0 1 0 200 999 9;", 13);
        b.same("premiums alone", y.earned(0), 0);
        b.same("premiums alone", y.balance(0), 1998);
        WaterExchange own = ran("reach 99 0;right 0 0 1 9;lease 0 0 0 9 7 1;", 1);
        b.same("also if it pays itself", own.earned(0), 63);
        own.undo();
        b.same("undone", own.earned(0) + own.got(0), 0);
    }

    private void waterSums() {
        b.promise(30, "Returns the sum of what was banked so far, over all accounts.");
        WaterExchange x = Use.of("reach 99 0;accounts 2;loss 50;right 0 0 1 10 keeps 100;right 1 0 2 7 keeps 50;");
        b.same("nothing so far", x.bankedInAll(), 0);
        x.run(1);
        b.same("10 and 3", x.bankedInAll(), 13);
        b.promise(31, "Returns the sum of what the banks have lost so far.");
        b.same("5 and 2", x.lostInAll(), 7);
        b.promise(32, "Returns the sum of what was released so far.");
        b.same("nothing so far", x.releasedInAll(), 0);
        x.release(0, 0, 5);
        x.release(1, 0, 1);
        b.same("all of it", x.releasedInAll(), 6);
        b.noState("an empty bank", () -> x.release(0, 0, 1));
        b.same("nothing more", x.releasedInAll(), 6);
        x.run(1);
        b.same("what was released stays in the sum", x.releasedInAll(), 6);
        b.same("an undo takes it back", x.undo() * 10 + x.undo(), 32);
        b.same("5 is left", x.releasedInAll(), 5);
        b.same("a new object", new WaterExchange().releasedInAll(), 0);
    }

    private void accountsRight() {
        b.promise(33, "Returns true if what was banked so far, minus what the banks have lost and what was released, "
                + "is the sum of all banks, and the sum of all balances is 0.");
        b.holds("a new object", new WaterExchange().areAccountsRight());
        WaterExchange x = Use.of("reach 99 0;accounts 5;loss 33;right 0 0 1 10 keeps 100;right 4 0 2 7 keeps 50;"
                + "lease 0 3 0 5 9 9;option 1 2 0 200 9 9;");
        for (int month = 0; month < 14; month++) {
            x.run(1);
            b.holds("behind month " + month, x.areAccountsRight());
            if (x.bank(0) > 0) {
                x.release(0, 0, 1);
            }
            x.transfer(0, month % 5, 9999);
            b.holds("behind a release and a transfer", x.areAccountsRight());
        }
        while (x.undo() >= 0) {
            b.holds("undone", x.areAccountsRight());
        }
    }

    private void richest() {
        b.promise(34, "Returns the account with the greatest balance; of several the lowest one.");
        b.same("a new object", new WaterExchange().richest(), 0);
        WaterExchange x = Use.of("reach 9 0;accounts 5;right 4 0 1 1;right 3 0 2 1;right 2 0 3 1;");
        b.same("all have 0", x.richest(), 0);
        x.transfer(0, 0, 9);
        b.same("the last one", x.richest(), 4);
        x.transfer(1, 0, 9);
        b.same("the lower one of two", x.richest(), 3);
        x.transfer(2, 0, 10);
        b.same("one more", x.richest(), 2);
        WaterExchange y = Use.of("reach 9 0;accounts 2;right 1 0 1 1;");
        y.transfer(0, 0, 1);
        b.same("1 and -1", y.richest(), 1);
        y.transfer(0, 1, 1);
        b.same("0 and 0", y.richest(), 0);
        y.transfer(0, 1, 9);
        y.transfer(0, 1, 9);
        b.same("the same account twice", y.richest(), 0);
    }
}
