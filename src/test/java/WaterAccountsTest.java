/** Promises 28 to 34 and the terms Settlement and The end of a month. */
public final class WaterAccountsTest {
    private static final Check CHECK = new Check();
    private static final Class<? extends RuntimeException> INDEX = IndexOutOfBoundsException.class;
    private static final int[] STRANGE = {-1, Integer.MIN_VALUE, Integer.MAX_VALUE};
    private static final String TRADES = "reach 200 0;reach 0 0;years 100 50;accounts 3;loss 10;"
            + "right 0 0 5 100 returns 40 1 keeps 50;lease 0 1 0 30 7 2;lease 0 2 1 50 3 12;option 0 2 1 60 25 9;";

    public static void main(String[] args) {
        settlement();
        gotByAccounts();
        premiums();
        bankSums();
        losses();
        richest();
        greatBalances();
        CHECK.end();
    }

    private static void settlement() {
        WaterExchange x = Use.of(TRADES);
        x.run(1);
        CHECK.same("12: 25 + 18 * 7 + 30 * 3", x.balance(0), 241);
        CHECK.same("12: 18 * 7", x.balance(1), -126);
        CHECK.same("12: 25 + 30 * 3", x.balance(2), -115);
        CHECK.same("29: without the premium", x.earned(0), 216);
        CHECK.holds("33: right", x.areAccountsRight());
        x.run(11);
        CHECK.same("29: a lease of 2 and one of 12 months", x.earned(0), 2 * 126 + 12 * 90);
        CHECK.same("12: premium once a year", x.balance(2), -25 - 12 * 90);
        x.run(1);
        CHECK.same("29: and the option's 60 * 9", x.earned(0), 2 * 126 + 12 * 90 + 540);
        CHECK.same("12: premium again", x.balance(2), -50 - 12 * 90 - 540);
        CHECK.holds("33: right", x.areAccountsRight());
        CHECK.refuses("29: right 1", INDEX, () -> x.earned(1));
        CHECK.refuses("28: account 3", INDEX, () -> x.got(3));
        for (int strange : STRANGE) {
            CHECK.refuses("29: right", INDEX, () -> x.earned(strange));
            CHECK.refuses("28: account", INDEX, () -> x.got(strange));
        }
        x.transfer(0, 1, 1);
        x.lease(0, 1, 0, 10, 5, 1);
        long before = x.balance(1);
        x.run(1);
        CHECK.same("12: the owner of now is paid, also by itself", x.balance(1) - before, 54 * 9);
    }

    private static void gotByAccounts() {
        WaterExchange x = Use.of(TRADES);
        x.run(2);
        CHECK.same("28: own", x.got(0), 40);
        CHECK.same("28: lease 0", x.got(1), 36);
        CHECK.same("28: lease 1", x.got(2), 60);
        x.transfer(0, 1, 0);
        x.run(1);
        CHECK.same("28: the account that it had then", x.got(0), 40);
        CHECK.same("28: the new account", x.got(1), 86);
        CHECK.same("28: leases stay", x.got(2), 90);
        CHECK.same("13: what is banked goes to the new account", x.bank(1), 22);
        x.run(10);
        CHECK.same("28: the option's", x.got(2), 12 * 30 + 60);
    }

    private static void premiums() {
        WaterExchange x = Use.of("reach 0 0;years 100 10;accounts 2;right 0 0 1 5;right 1 0 2 5;"
                + "option 0 1 0 50 100 1;option 1 1 0 50 7 1;");
        x.run(1);
        CHECK.same("12: paid though not exercised", x.balance(0), 100);
        CHECK.same("12: to itself: nothing", x.balance(1), -100);
        x.run(11);
        CHECK.same("12: not in other months", x.balance(0), 100);
        x.transfer(0, 1, 0);
        x.run(1);
        CHECK.same("12: to the owner of now", x.balance(0), 100);
        x.undo();
        x.undo();
        x.run(1);
        CHECK.same("12: also in the second year", x.balance(0), 200);
    }

    private static void bankSums() {
        WaterExchange x = Use.of("reach 500 0;accounts 2;loss 3;right 0 0 1 99 keeps 50;right 1 0 2 30 keeps 100;");
        x.run(1);
        CHECK.same("30: 49 and 30", x.bankedInAll(), 79);
        CHECK.same("31: 2 and 1", x.lostInAll(), 3);
        CHECK.same("13: 49 less 2", x.bank(0), 47);
        CHECK.same("13: 30 less 1", x.bank(1), 29);
        CHECK.same("32: none", x.releasedInAll(), 0);
        x.release(0, 0, 40);
        x.release(1, 0, 29);
        CHECK.same("32: 40 and 29", x.releasedInAll(), 69);
        CHECK.holds("33: right", x.areAccountsRight());
        x.run(2);
        CHECK.same("30: three months", x.bankedInAll(), 237);
        CHECK.same("31: 56 loses 2, 103 loses 4; 30 loses 1, 59 loses 2", x.lostInAll(), 12);
        CHECK.holds("33: right", x.areAccountsRight());
        WaterExchange y = new WaterExchange();
        CHECK.same("30: none", y.bankedInAll() + y.lostInAll() + y.releasedInAll(), 0);
        CHECK.holds("33: nothing", y.areAccountsRight());
    }

    private static void losses() {
        WaterExchange x = Use.of("reach 500 0;loss 50;right 0 0 1 1 keeps 100;");
        x.run(3);
        CHECK.same("31: a half is rounded up", x.lostInAll(), 3);
        CHECK.same("13: nothing stays", x.bank(0), 0);
        x = Use.of("reach 500 0;right 0 0 1 1 keeps 100;");
        x.run(3);
        CHECK.same("31: without a loss", x.lostInAll(), 0);
        CHECK.same("13: all stays", x.bank(0), 3);
        x = Use.of("reach 500 0;loss 10;right 0 0 1 100 keeps 100;");
        x.run(1);
        CHECK.same("31: a tenth of 100 needs no rounding", x.lostInAll(), 10);
        x.release(0, 0, 90);
        x.run(1);
        CHECK.same("31: what was released loses nothing", x.lostInAll(), 20);
    }

    private static void richest() {
        WaterExchange x = Use.of("reach 1 0;accounts 4;right 0 0 1 1;right 1 0 2 1;right 2 0 3 1;right 3 0 4 1;");
        CHECK.same("34: all have 0", x.richest(), 0);
        x.transfer(2, 0, 5);
        CHECK.same("34: 2 has 5", x.richest(), 2);
        x.transfer(1, 0, 5);
        CHECK.same("34: the lowest of 1 and 2", x.richest(), 1);
        x.transfer(3, 0, 6);
        CHECK.same("34: 3 has 6", x.richest(), 3);
        CHECK.same("34: one account", new WaterExchange().richest(), 0);
        x = Use.of("reach 1 0;accounts 2;right 1 0 1 1;");
        x.transfer(0, 0, 9999);
        CHECK.same("34: the other one is below 0", x.richest(), 1);
    }

    private static void greatBalances() {
        StringBuilder text = new StringBuilder("reach 999 0;".repeat(6) + "accounts 3;");
        for (int i = 0; i < 6; i++) {
            text.append("right 1 ").append(i).append(' ').append(i + 1).append(" 999;option ");
            text.append(i).append(" 2 ").append(i).append(" 200 0 99;");
        }
        WaterExchange x = Use.of(text.toString());
        for (int call = 0; call < 100; call++) {
            x.run(36);
        }
        long paidInMonth = 6 * 999 * 99;
        CHECK.same("37: more than an int holds", x.balanceAfter(1, 36), 101 * 36 * paidInMonth);
        CHECK.same("37: less than an int holds", x.balanceAfter(2, 36), -101 * 36 * paidInMonth);
        x.run(36);
        CHECK.same("12: more than an int holds", x.balance(1), 101 * 36 * paidInMonth);
        CHECK.same("12: less than an int holds", x.balance(2), -101 * 36 * paidInMonth);
        CHECK.same("29: in all for one right", x.earned(5), 101 * 36 * 999 * 99);
        CHECK.same("34: the greatest one", x.richest(), 1);
        CHECK.holds("33: right", x.areAccountsRight());
        x.undo();
        CHECK.same("52: a great balance, too", x.balance(1), 100 * 36 * paidInMonth);
        x.run(36);
        x.save(0);
        x.transfer(0, 0, 1);
        x.restore(0);
        CHECK.same("55: a great balance, too", x.balance(1), 101 * 36 * paidInMonth);
    }
}
