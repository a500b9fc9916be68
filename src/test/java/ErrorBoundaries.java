/** The errors in the text: the offset and the four kinds. */
final class ErrorBoundaries {
    private static final int SYNTAX = Loading.SYNTAX;
    private static final int BAD_NUMBER = Loading.BAD_NUMBER;
    private static final int TWICE = Loading.TWICE;
    private static final int TOO_MANY = Loading.TOO_MANY;
    private static final String RIVER = Line.RIVER;
    private static final String RIGHTS = Line.RIGHTS;

    private final Boundary b;
    private final Loading text;

    ErrorBoundaries(Boundary b) {
        this.b = b;
        this.text = new Loading(b);
    }

    void all() {
        firstByte();
        wrongTokens();
        tooEarly();
        tooManyLines();
        tooManyNumbers();
        takenPriority();
        takenRight();
        manyDigits();
        outOfRange();
        everythingElse();
        lateAccounts();
    }

    // ---- offset

    private void firstByte() {
        b.terms("The error offset is the offset of the first byte at which no correct text can go on");
        text.wrong("", "x", SYNTAX);
        text.wrong("loss 1;", "x;loss 51;reach x", SYNTAX);
        text.wrong("loss ", "51;x", BAD_NUMBER);
        text.wrong("years 1 2 3 4 5 ", "6;loss 51;", TOO_MANY);
        text.wrong(RIGHTS + "right 0 0 ", "50 1000;x", TWICE);
        text.wrong(RIGHTS + "right ", "3 3 50 1000;", BAD_NUMBER);
        text.wrong("reach 1 1; \n\t ", ",", SYNTAX);
        text.wrong("reach 1 1 \n\t ", ",;", SYNTAX);
    }

    private void wrongTokens() {
        b.terms("a wrong word or number counts at its first byte");
        text.wrong("", "reachx 1 1;", SYNTAX);
        text.wrong("", "rea", SYNTAX);
        text.wrong("reach 1 1;", "reac", SYNTAX);
        text.wrong("loss ", "501;", BAD_NUMBER);
        text.wrong("loss ", "510", BAD_NUMBER);
        text.wrong("loss ", "0051;", BAD_NUMBER);
        text.wrong("loss 50 ", "50;", SYNTAX);
        text.wrong("", "501;", SYNTAX);
        text.wrong("loss ", "loss;", SYNTAX);
        text.wrong(RIVER + "right 0 0 1 1 ", "retur", SYNTAX);
        for (Line line : Line.ALL) {
            for (int number = 0; number < line.numbers(); number++) {
                text.wrong(line.upTo(number), "loss" + line.behind(number), SYNTAX);
            }
        }
    }

    private void tooEarly() {
        b.terms("if the text ends too early, it is the length of the text.");
        for (Line line : Line.ALL) {
            text.endsTooEarly(line.ahead() + line.head());
            for (int number = 0; number <= line.numbers(); number++) {
                String cut = line.upTo(number);
                text.endsTooEarly(cut);
                text.endsTooEarly(cut + "\n\n\n");
                text.endsTooEarly(cut.substring(0, cut.length() - 1));
            }
        }
        text.endsTooEarly(RIVER + "right 0 0 1 1 returns");
        text.endsTooEarly(RIVER + "right 0 0 1 1 returns 1");
        text.endsTooEarly(RIVER + "right 0 0 1 1 returns 1 1");
        text.endsTooEarly(RIVER + "right 0 0 1 1 returns 1 1 keeps");
        text.endsTooEarly(RIVER + "right 0 0 1 1 returns 1 1 keeps 1");
        text.endsTooEarly(" ".repeat(895) + "loss ");
    }

    // ---- TOO_MANY

    private void tooManyLines() {
        b.terms("TOO_MANY: a 7th reach, 11th right, 9th lease or 7th option, at its first word");
        StringBuilder rights = new StringBuilder(RIVER);
        StringBuilder options = new StringBuilder();
        for (int i = 0; i < 10; i++) {
            rights.append("right 0 0 ").append(i + 1).append(" 1;");
            if (i < 6) {
                options.append("option ").append(i).append(" 0 0 1 1 1;");
            }
        }
        tooMany("reach 1 1;".repeat(6), "reach", " 1 1;");
        tooMany(rights.toString(), "right", " 0 0 99 1;");
        tooMany(RIGHTS + "lease 0 0 0 1 1 1;".repeat(8), "lease", " 0 0 0 1 1 1;");
        tooMany(rights.toString() + options, "option", " 6 0 0 1 1 1;");
    }

    private void tooMany(String full, String word, String rest) {
        WaterExchange x = text.correct(full);
        b.holds("as many as there can be", x.count(0) == 6 || x.count(2) == 10 || x.count(3) == 8);
        text.wrong(full, word + rest, TOO_MANY);
        text.wrong(full + "loss 1; ", word + rest, TOO_MANY);
        text.wrong(full, word, TOO_MANY);
        text.wrong(full, word + " x", TOO_MANY);
        text.wrong(full, word + " 1000 1000 1000 1000;", TOO_MANY);
        text.wrong(full, word + word, SYNTAX);
        text.wrong(full, word.substring(1), SYNTAX);
    }

    private void tooManyNumbers() {
        b.terms("a 13th number of \"season\" or a 6th of \"years\" (whatever it is).");
        String season = "season 1 2 3 4 5 6 7 8 9 10 11 12";
        String years = "years 1 2 3 4 5";
        text.correct(season + ";");
        text.correct(years + ";");
        for (String line : new String[] {season, years, season + ";" + season, years + ";" + years}) {
            for (String number : new String[] {"1", "0", "200", "201", "999", "1000", "0000", "99999999999"}) {
                text.wrong(line + " ", number + ";", TOO_MANY);
                text.wrong(line + " ", number, TOO_MANY);
            }
            text.wrong(line + " ", "x;", SYNTAX);
            text.wrong(line, ",", SYNTAX);
        }
        text.wrong("season 1 2 3 4 5 6 7 8 9 10 11 ", "201 13;", BAD_NUMBER);
        text.wrong("years 1 2 3 4 ", "201 6;", BAD_NUMBER);
    }

    // ---- TWICE

    private void takenPriority() {
        b.terms("TWICE: a priority that another right has");
        text.wrong(RIGHTS + "right 0 0 ", "50 1;", TWICE);
        text.wrong(RIGHTS + "right 2 2 ", "51 1;", TWICE);
        text.wrong(RIGHTS + "right 0 0 ", "050 1;", TWICE);
        text.wrong(RIGHTS + "right 0 0 ", "50", TWICE);
        text.wrong(RIGHTS + "right 0 0 ", "50 x", TWICE);
        text.wrong(RIGHTS + "right 0 0 ", "0050 1;", BAD_NUMBER);
        text.wrong(RIGHTS + "right 0 ", "3 50 1;", BAD_NUMBER);
        text.wrong(RIGHTS + "right 0 0 ", "100 1;", BAD_NUMBER);
        text.correct(RIGHTS + "right 0 0 49 50;right 0 0 52 51;");
        StringBuilder ten = new StringBuilder(RIVER);
        for (int i = 1; i < 10; i++) {
            ten.append("right 0 0 ").append(i).append(" 9;");
        }
        for (int i = 1; i < 10; i++) {
            text.wrong(ten + "right 0 0 ", i + " 9;", TWICE);
        }
        text.correct(ten + "right 0 0 10 9;");
    }

    private void takenRight() {
        b.terms("the right of an option that has an option already.");
        String both = RIGHTS + "option 1 0 0 1 1 1;";
        text.wrong(both + "option ", "1 0 0 1 1 1;", TWICE);
        text.wrong(both + "option ", "001 2 2 9 9 9;", TWICE);
        text.wrong(both + "option ", "1", TWICE);
        text.wrong(both + "option ", "1 x", TWICE);
        text.wrong(both + "option ", "2 0 0 1 1 1;", BAD_NUMBER);
        text.wrong(both + "option ", "0001 0 0 1 1 1;", BAD_NUMBER);
        text.wrong(both + "option 0 0 0 1 1 1;option ", "0 0 0 1 1 1;", TWICE);
        text.correct(both + "option 0 0 0 1 1 1;");
        text.correct(both + "lease 1 0 0 1 1 1;lease 1 0 0 1 1 1;");
    }

    // ---- BAD_NUMBER

    private void manyDigits() {
        b.terms("BAD_NUMBER: where a number can stand, one with more than 3 digits");
        for (Line line : Line.ALL) {
            for (int number = 0; number < line.numbers(); number++) {
                String four = "000" + line.least()[number];
                text.wrong(line.upTo(number), four + line.behind(number), BAD_NUMBER);
                text.wrong(line.upTo(number), "1000" + line.behind(number), BAD_NUMBER);
                text.wrong(line.upTo(number), "10000000000000000", BAD_NUMBER);
                text.correct(line.upTo(number) + four.substring(1) + line.behind(number));
            }
        }
    }

    private void outOfRange() {
        b.terms("or out of its range.");
        for (Line line : Line.ALL) {
            for (int number = 0; number < line.numbers(); number++) {
                text.range(line, number);
            }
        }
    }

    // ---- SYNTAX

    private void everythingElse() {
        b.terms("SYNTAX: everything else");
        whereNumbersCanStand();
        otherBytes();
    }

    private void whereNumbersCanStand() {
        for (Line line : Line.ALL) {
            for (int number = 0; number < line.numbers(); number++) {
                if (line.mayEndBehind(number)) {
                    text.correct(line.upTo(number) + ";");
                } else {
                    text.wrong(line.upTo(number), ";", SYNTAX);
                }
                text.wrong(line.upTo(number), "x", SYNTAX);
                text.wrong(line.upTo(number), ",", SYNTAX);
            }
            if (line != Line.SEASON && line != Line.YEARS) {
                text.wrong(line.upTo(line.numbers()), "1;", SYNTAX);
                text.wrong(line.upTo(line.numbers()), "1000;", SYNTAX);
            }
        }
        text.wrong("", "1000;", SYNTAX);
        text.wrong("loss 1;", "1000;", SYNTAX);
    }

    private void otherBytes() {
        for (int sign = 0; sign < 256; sign++) {
            boolean isBlank = sign == 32 || sign == 9 || sign == 10;
            boolean isDigit = sign >= '0' && sign <= '9';
            String some = String.valueOf((char) sign);
            if (isBlank) {
                text.correct(some + "loss" + some + "1" + some + ";" + some);
                continue;
            }
            text.wrong("", some, SYNTAX);
            text.wrong(" ", some + " loss 1;", SYNTAX);
            text.wrong("loss 1; ", some, SYNTAX);
            text.wrong("loss 1;", some + "1;", SYNTAX);
            if (!isDigit) {
                text.wrong("reach 1", some + "1;", SYNTAX);
                text.wrong("reach ", some + " 1 1;", SYNTAX);
            }
            if (sign != ';') {
                text.wrong("reach 1 1 ", some + ";", SYNTAX);
            }
        }
    }

    private void lateAccounts() {
        b.terms("(also an \"accounts\" behind one of the lines told above, at this word).");
        text.wrong(RIVER + "right 0 0 1 1;", "accounts 2;", SYNTAX);
        text.wrong(RIVER + "right 0 0 1 1; ", "accounts 0;", SYNTAX);
        text.wrong(RIGHTS + "lease 0 0 0 1 1 1;", "accounts 1000;", SYNTAX);
        text.wrong(RIGHTS + "option 0 0 0 1 1 1;\n", "accounts x;", SYNTAX);
    }
}
