/** The input text of the document's terms: its tokens, its lines, and what counts of several lines. */
final class TextBoundaries {
    private static final int SYNTAX = Loading.SYNTAX;
    private static final int BAD_NUMBER = Loading.BAD_NUMBER;
    private static final String RIVER = Line.RIVER;
    private static final String RIGHTS = Line.RIGHTS;

    private final Boundary b;
    private final Loading text;

    TextBoundaries(Boundary b) {
        this.b = b;
        this.text = new Loading(b);
    }

    void all() {
        zeroOrMore();
        semicolons();
        words();
        numbers();
        blanks();
        reachLines();
        seasonLines();
        yearsLines();
        lossLines();
        accountsLines();
        severalLines();
        accountsAheadOfRights();
        rightLines();
        leaseLines();
        optionLines();
        earlierLines();
    }

    // ---- grammar

    private void zeroOrMore() {
        b.terms("where { x } means zero or more and [ x ] means zero or one");
        text.correct("");
        text.correct("reach 1 1;");
        text.correct("loss 1;".repeat(128));
        text.correct("season 1;");
        text.correct("season 1 2 3 4 5 6 7 8 9 10 11 12;");
        text.correct("years 1;");
        text.correct("years 1 2 3 4 5;");
        String right = RIVER + "right 0 0 1 1";
        text.correct(right + ";");
        text.correct(right + " returns 1 1;");
        text.correct(right + " keeps 1;");
        text.correct(right + " returns 1 1 keeps 1;");
        text.wrong(right + " returns 1 1 ", "returns 1 1;", SYNTAX);
        text.wrong(right + " keeps 1 ", "keeps 1;", SYNTAX);
        text.wrong(right + " keeps 1 ", "returns 1 1;", SYNTAX);
        text.wrong(right + " returns 1 1 keeps 1 ", "returns 1 1;", SYNTAX);
        text.wrong("season ", ";", SYNTAX);
        text.wrong("years ", ";", SYNTAX);
    }

    private void semicolons() {
        b.terms("text = { line \";\" }.");
        text.wrong("", ";", SYNTAX);
        text.wrong("loss 1;", ";", SYNTAX);
        text.wrong("loss 1 ", "loss 1;", SYNTAX);
        text.endsTooEarly("loss 1");
        text.endsTooEarly("loss 1;loss 1");
        for (Line line : Line.ALL) {
            String whole = line.withNumber(0, line.least()[0]);
            text.correct(whole);
            text.endsTooEarly(whole.substring(0, whole.length() - 1));
            text.wrong(whole, ";", SYNTAX);
        }
    }

    private void words() {
        b.terms("A word is a longest run of letters a to z");
        String[] all = {"reach", "season", "years", "loss", "accounts", "right", "lease", "option"};
        for (String word : all) {
            for (int cut = 1; cut < word.length(); cut++) {
                text.wrong(RIGHTS, word.substring(0, cut) + " 1 1 1 1 1 1;", SYNTAX);
                text.wrong(RIGHTS, word.substring(cut) + " 1 1 1 1 1 1;", SYNTAX);
                text.wrong(RIGHTS, word.substring(0, cut) + " " + word.substring(cut), SYNTAX);
                text.wrong(RIGHTS, word.substring(0, cut), SYNTAX);
            }
            for (char letter = 'a'; letter <= 'z'; letter++) {
                text.wrong(RIGHTS, word + letter + " 1 1 1 1 1 1;", SYNTAX);
            }
            text.wrong(RIGHTS, "z" + word.substring(1) + " 1 1 1 1 1 1;", SYNTAX);
            text.wrong(RIGHTS, word.substring(0, word.length() - 1) + "z 1 1 1 1 1 1;", SYNTAX);
            text.wrong(RIGHTS, word + word, SYNTAX);
            text.wrong(RIGHTS, "a" + word + " 1 1 1 1 1 1;", SYNTAX);
        }
        String right = RIVER + "right 0 0 1 1 ";
        for (String wrong : new String[] {"return 1 1;", "returnss 1 1;", "keep 1;", "keepss 1;", "returnskeeps 1 1;"}) {
            text.wrong(right, wrong, SYNTAX);
        }
        text.wrong("", "returns 1 1;", SYNTAX);
        text.wrong("", "keeps 1;", SYNTAX);
        text.wrong("", "Loss 1;", SYNTAX);
        text.wrong("", "LOSS 1;", SYNTAX);
        text.wrong("", "losS 1;", SYNTAX);
    }

    private void numbers() {
        b.terms("a number is a longest run of digits and has 1 to 3 digits.");
        b.same("1 digit", text.correct("reach 7 0;").reach(0, 0), 7);
        b.same("2 digits", text.correct("reach 77 0;").reach(0, 0), 77);
        b.same("3 digits", text.correct("reach 777 0;").reach(0, 0), 777);
        b.same("zeros ahead", text.correct("reach 007 00;").reach(0, 0), 7);
        b.same("zeros alone", text.correct("reach 000 0;").reach(0, 0), 0);
        text.wrong("reach ", "7777 0;", BAD_NUMBER);
        text.wrong("reach ", "0007 0;", BAD_NUMBER);
        text.wrong("reach ", "0000", BAD_NUMBER);
        text.wrong("reach ", "4294967297 0;", BAD_NUMBER);
        text.wrong("reach ", "9".repeat(800), BAD_NUMBER);
        text.endsTooEarly("reach 777");
        text.wrong("reach 777", ";", SYNTAX);
        text.wrong("reach 7 7 ", "7;", SYNTAX);
        b.same("two runs of digits are two numbers", text.correct("reach 77 7;").reach(0, 1), 7);
    }

    private void blanks() {
        b.terms("Spaces, tabs and line feeds (bytes 32, 9 and 10) may stand before the first token, "
                + "between any two tokens, and behind the last one.");
        for (String blank : new String[] {" ", "\t", "\n", " \t\n\n  ", " ".repeat(30)}) {
            text.correct(blank);
            String line = "right,0,0,1,1,returns,1,1,keeps,1,;".replace(",", blank);
            WaterExchange x = text.correct(blank + RIVER.replace(";", blank + ";" + blank) + line + blank);
            b.same("its keep percentage", x.right(0, 6), 1);
        }
        WaterExchange x = text.correct("reach1 2;loss3;accounts2;right1 0 4 5returns6 0keeps7;");
        b.same("none between a word and a number", x.right(0, 6), 7);
        b.same("none between a number and a word", x.right(0, 4), 6);
        text.wrong("reach 1 1; ", "x", SYNTAX);
        text.wrong("\n\t ", "x", SYNTAX);
        text.endsTooEarly("reach 1 1 \n\t ");
        text.wrong("", "rea ch 1 1;", SYNTAX);
        text.wrong("reach 1 2 ", "3;", SYNTAX);
    }

    // ---- lines

    private void reachLines() {
        b.terms("\"reach\" adds a reach at the lower end, with its inflow and its minimum.");
        WaterExchange x = text.correct("reach 10 1;reach 20 2;reach 30 3;reach 40 4;reach 50 5;reach 60 6;");
        for (int reach = 0; reach < 6; reach++) {
            b.same("inflow " + reach, x.reach(reach, 0), 10 * reach + 10);
            b.same("minimum " + reach, x.reach(reach, 1), reach + 1);
            b.same("nothing was released", x.reach(reach, 2), 0);
        }
        x.run(1);
        b.same("the lower end", x.outflow(), 210);
    }

    private void sameSeason(String lines, int... due) {
        WaterExchange x = text.correct(lines);
        for (int month = 0; month < 12; month++) {
            b.same(lines + " month " + month, x.season(month), month < due.length ? due[month] : 100);
        }
    }

    private void seasonLines() {
        b.terms("\"season\" sets season percentages, from that of month 0 of a year on, as far as it has numbers "
                + "(a later line leaves the others as they are; 100 without any).");
        sameSeason("");
        sameSeason("season 0;", 0);
        sameSeason("season 7 8;", 7, 8);
        String twelve = "season 1 2 3 4 5 6 7 8 9 10 11 12;";
        sameSeason(twelve, 1, 2, 3, 4, 5, 6, 7, 8, 9, 10, 11, 12);
        sameSeason(twelve + "season 50;", 50, 2, 3, 4, 5, 6, 7, 8, 9, 10, 11, 12);
        sameSeason(twelve + "season 50 60 70;season 80 90;", 80, 90, 70, 4, 5, 6, 7, 8, 9, 10, 11, 12);
        sameSeason("season 50;" + twelve, 1, 2, 3, 4, 5, 6, 7, 8, 9, 10, 11, 12);
        sameSeason("season 9 9 9;season 8 8;season 7;", 7, 8, 9);
    }

    private void sameYears(String lines, int... due) {
        WaterExchange x = text.correct(lines);
        b.same(lines + " number", x.count(7), due.length);
        for (int year = 0; year < 12; year++) {
            b.same(lines + " year " + year, x.yearPercent(year), due[year % due.length]);
        }
    }

    private void yearsLines() {
        b.terms("\"years\" sets the year percentages (100 alone without it); the last such line counts.");
        sameYears("", 100);
        sameYears("years 0;", 0);
        sameYears("years 1 2 3 4 5;", 1, 2, 3, 4, 5);
        sameYears("years 1 2 3 4 5;years 9;", 9);
        sameYears("years 9;years 1 2 3 4 5;", 1, 2, 3, 4, 5);
        sameYears("years 1 2 3;years 7 8;", 7, 8);
        sameYears("years 1;years 2;years 3;", 3);
    }

    private void lossLines() {
        b.terms("\"loss\" sets the loss (0 without it)");
        b.same("without it", text.correct("").count(6), 0);
        b.same("least", text.correct("loss 0;").count(6), 0);
        b.same("greatest", text.correct("loss 50;").count(6), 50);
        text.range(Line.LOSS, 0);
    }

    private void accountsLines() {
        b.terms("\"accounts\" the number of accounts (1 to 5; 1 without it)");
        b.same("without it", text.correct("").count(1), 1);
        b.same("least", text.correct("accounts 1;").count(1), 1);
        b.same("greatest", text.correct("accounts 5;").count(1), 5);
        text.range(Line.ACCOUNTS, 0);
        text.wrong("reach 1 1;right ", "1 0 1 1;", BAD_NUMBER);
        text.correct("reach 1 1;right 0 0 1 1;");
        text.wrong("reach 1 1;accounts 5;right ", "5 0 1 1;", BAD_NUMBER);
        text.correct("reach 1 1;accounts 5;right 4 0 1 1;");
    }

    private void severalLines() {
        b.terms("of several such lines the last one counts.");
        b.same("loss", text.correct("loss 5;loss 50;loss 7;").count(6), 7);
        b.same("loss 0", text.correct("loss 5;loss 0;").count(6), 0);
        b.same("accounts, more", text.correct("accounts 1;accounts 5;").count(1), 5);
        b.same("accounts, fewer", text.correct("accounts 5;accounts 2;").count(1), 2);
        text.correct("reach 1 1;accounts 2;accounts 3;right 2 0 1 1;");
        text.wrong("reach 1 1;accounts 3;accounts 2;right ", "2 0 1 1;", BAD_NUMBER);
    }

    private void accountsAheadOfRights() {
        b.terms("\"accounts\" can stand only ahead of all \"right\", \"lease\" and \"option\" lines.");
        text.correct("reach 1 1;season 1;years 1;loss 1;accounts 2;right 1 0 1 1;");
        text.correct("accounts 2;reach 1 1;accounts 3;right 2 0 1 1;reach 1 1;season 1;years 1;loss 1;");
        String[] behind = {"right 0 0 1 1;", "lease 0 0 0 1 1 1;", "option 0 0 0 1 1 1;"};
        for (String line : behind) {
            String before = line.equals(behind[0]) ? RIVER : RIGHTS;
            text.wrong(before + line, "accounts 3;", SYNTAX);
            text.wrong(before + line + "loss 1;", "accounts 3;", SYNTAX);
            text.wrong(before + line, "accounts 6;", SYNTAX);
            text.wrong(before + line, "accounts", SYNTAX);
        }
    }

    private void sameRight(String line, int... due) {
        WaterExchange x = text.correct(RIVER + line);
        for (int what = 0; what < 10; what++) {
            b.same(line + " " + what, x.right(0, what), what < due.length ? due[what] : 0);
        }
    }

    private void rightLines() {
        b.terms("\"right\" adds a right: its account, reach, priority and amount; then the return percentage and "
                + "the reach (0 and its own one without it), and the keep percentage (0 without it).");
        sameRight("right 0 0 1 1;", 0, 0, 1, 1, 0, 0, 0);
        sameRight("right 2 1 99 999;", 2, 1, 99, 999, 0, 1, 0);
        sameRight("right 2 2 99 999;", 2, 2, 99, 999, 0, 2, 0);
        sameRight("right 1 0 8 7 keeps 6;", 1, 0, 8, 7, 0, 0, 6);
        sameRight("right 1 1 8 7 keeps 100;", 1, 1, 8, 7, 0, 1, 100);
        sameRight("right 1 0 8 7 returns 90 2;", 1, 0, 8, 7, 90, 2, 0);
        sameRight("right 1 1 8 7 returns 0 2 keeps 5;", 1, 1, 8, 7, 0, 2, 5);
        sameRight("right 1 1 8 7 returns 5 1 keeps 0;", 1, 1, 8, 7, 5, 1, 0);
    }

    private void leaseLines() {
        b.terms("\"lease\" adds a lease: its right, account, reach, volume, price and months.");
        WaterExchange x = text.correct(RIGHTS + "lease 0 0 0 1 0 1;lease 1 2 2 999 99 36;");
        int[][] due = {{0, 0, 0, 1, 0, 1}, {1, 2, 2, 999, 99, 36}};
        for (int lease = 0; lease < 2; lease++) {
            for (int what = 0; what < 6; what++) {
                b.same("lease " + lease + " " + what, x.leaseField(lease, what), due[lease][what]);
            }
        }
    }

    private void optionLines() {
        b.terms("\"option\" adds an option: its right, account, reach, trigger, premium and strike.");
        WaterExchange x = text.correct(RIGHTS + "option 1 0 0 1 0 0;option 0 2 2 200 999 99;");
        int[][] due = {{1, 0, 0, 1, 0, 0}, {0, 2, 2, 200, 999, 99}};
        for (int option = 0; option < 2; option++) {
            for (int what = 0; what < 6; what++) {
                b.same("option " + option + " " + what, x.optionField(option, what), due[option][what]);
            }
        }
    }

    private void earlierLines() {
        b.terms("Numbers of reaches and rights are those of earlier lines.");
        text.wrong("right 0 ", "0 1 1;reach 1 1;", BAD_NUMBER);
        text.wrong("reach 1 1;right 0 ", "1 1 1;reach 1 1;", BAD_NUMBER);
        text.wrong("reach 1 1;right 0 0 1 1 returns 5 ", "1;reach 1 1;", BAD_NUMBER);
        text.correct("reach 1 1;reach 1 1;right 0 1 1 1 returns 5 1;reach 1 1;right 0 0 2 2 returns 5 2;");
        for (String word : new String[] {"lease ", "option "}) {
            text.wrong("reach 1 1;" + word, "0 0 0 1 1 1;right 0 0 1 1;", BAD_NUMBER);
            text.wrong("reach 1 1;right 0 0 1 1;" + word, "1 0 0 1 1 1;right 0 0 2 1;", BAD_NUMBER);
            text.wrong("reach 1 1;right 0 0 1 1;" + word + "0 0 ", "1 1 1 1;reach 1 1;", BAD_NUMBER);
            text.correct("reach 1 1;right 0 0 1 1;right 0 0 2 1;reach 1 1;" + word + "1 0 1 1 1 1;");
        }
    }
}
