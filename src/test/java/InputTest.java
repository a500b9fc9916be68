/** Promises 1 to 6: a new object, the buffer, loading, errors in the text. */
public final class InputTest {
    private static final Check CHECK = new Check();
    private static final int S = WaterExchange.SYNTAX;
    private static final int B = WaterExchange.BAD_NUMBER;
    private static final int T = WaterExchange.TWICE;
    private static final int M = WaterExchange.TOO_MANY;
    private static final String RIVER = "reach 100 10;reach 50 0;accounts 2;";
    private static final String RIGHTS = RIVER + "right 0 0 7 50;right 1 1 8 60;";

    public static void main(String[] args) {
        newObject();
        appends();
        truncates();
        loads();
        refusedLoads();
        tokens();
        reachLines();
        percentLines();
        smallLines();
        rightLines();
        leaseLines();
        optionLines();
        tooMany();
        wholeBuffer();
        CHECK.end();
    }

    // ---- promise 1

    private static void newObject() {
        WaterExchange x = new WaterExchange();
        int[] counts = {0, 1, 0, 0, 0, 0, 0, 1};
        for (int what = 0; what < 8; what++) {
            CHECK.same("1: count " + what, x.count(what), counts[what]);
        }
        for (int month = 0; month < 12; month++) {
            CHECK.same("1: season", x.season(month), 100);
        }
        CHECK.same("1: year", x.yearPercent(0), 100);
        CHECK.same("1: balance", x.balance(0), 0);
        CHECK.same("1: bank", x.bank(0), 0);
        CHECK.same("1: errorOffset", x.errorOffset(), -1);
        CHECK.same("1: errorKind", x.errorKind(), 0);
        CHECK.same("1: undoDepth", x.undoDepth(), 0);
        CHECK.same("1: empty slot", x.save(0) ? 1 : 0, 0);
        CHECK.same("1: formatted", x.formattedByte(0), -1);
        CHECK.fails("1: empty buffer", x.truncate(1));
        CHECK.same("1: as an empty text", Use.allOf(new WaterExchange()), Use.allOf(Use.of("")));
    }

    // ---- promises 2 and 3

    private static void appends() {
        WaterExchange x = new WaterExchange();
        CHECK.same("2: first", x.append(0x6c6f7373, 0x20313233, 0x20202020, 0x20202020, 0x20202020), 20);
        CHECK.refuses("2: loss 123", IllegalArgumentException.class, x::load);
        CHECK.same("2: the bytes of a word in order", x.errorOffset(), 5);
        x.append(0x20202020, 0x6c6f7373, 0x20202020, 0x20343b20, 0x20202020);
        CHECK.same("2: words in order", x.load(), 0);
        CHECK.same("2: loss 4", x.count(6), 4);
        x.append(0x202020e9, 0x80000000, 0, 0, 0);
        CHECK.refuses("2: strange byte", IllegalArgumentException.class, x::load);
        CHECK.same("2: strange byte", x.errorOffset(), 3);
        for (int length = 20; length <= 900; length += 20) {
            CHECK.same("2: length", x.append(0x20202020, 0x20202020, 0x20202020, 0x20202020, 0x20202020), length);
        }
        CHECK.same("2: full", x.append(0x41414141, 0x41414141, 0, 0, 0), -1);
        CHECK.holds("2: still 900", x.truncate(900));
        CHECK.same("2: the refused bytes are not there", x.load(), 0);
        for (int i = 0; i < 44; i++) {
            x.append(0, 0, 0, 0, 0);
        }
        x.append(0, 0, 0, 0, 0);
        x.truncate(881);
        CHECK.same("2: 881 and 20", x.append(0, 0, 0, 0, 0), -1);
        x.truncate(880);
        CHECK.same("2: 880 and 20", x.append(0, 0, 0, 0, 0), 900);
    }

    private static void truncates() {
        WaterExchange x = new WaterExchange();
        CHECK.holds("3: 0 of 0", x.truncate(0));
        CHECK.fails("3: 1 of 0", x.truncate(1));
        Use.put(x, "loss 5;loss 6;loss 7");
        CHECK.fails("3: -1", x.truncate(-1));
        CHECK.fails("3: least int", x.truncate(Integer.MIN_VALUE));
        CHECK.fails("3: 21 of 20", x.truncate(21));
        CHECK.fails("3: greatest int", x.truncate(Integer.MAX_VALUE));
        CHECK.holds("3: 20 of 20", x.truncate(20));
        CHECK.holds("3: 14 of 20", x.truncate(14));
        CHECK.fails("3: 15 of 14", x.truncate(15));
        x.load();
        CHECK.same("3: what is left", x.count(6), 6);
        Use.put(x, "loss 5;");
        CHECK.holds("3: 0 of 7", x.truncate(0));
        CHECK.same("3: nothing is left", x.load(), 0);
        CHECK.same("3: nothing is left", x.count(6), 0);
    }

    // ---- promise 4

    private static void loads() {
        WaterExchange x = Use.of(RIGHTS + "lease 0 1 0 9 9 9;loss 50;");
        x.setKeep(0, 100);
        x.run(3);
        x.save(0);
        x.save(1);
        int length = x.formatClaims();
        String text = Use.formatted(x, length);
        Use.put(x, "reach 5 5;right 0 0 9 9;");
        CHECK.same("4: rights", x.load(), 1);
        CHECK.same("4: the formatted text stays", Use.formatted(x, length), text);
        CHECK.same("4: the formatted text ends", x.formattedByte(length), -1);
        CHECK.same("4: everything is new", Use.allOf(x), Use.allOf(Use.of("reach 5 5;right 0 0 9 9;")));
        CHECK.same("4: no undo", x.undo(), -1);
        CHECK.refuses("4: slot 0 is empty", IllegalStateException.class, () -> x.restore(0));
        CHECK.refuses("4: slot 1 is empty", IllegalStateException.class, () -> x.restore(1));
        CHECK.fails("4: slot 1 is empty", x.save(1));
        CHECK.fails("4: the buffer is empty", x.truncate(1));
        CHECK.same("4: an empty text", x.load(), 0);
        CHECK.same("4: an empty text", x.count(0), 0);
        loadsBehindForecasts();
    }

    // Nothing of a forecast, of the river before or of a text that did not match is left in what is loaded.
    private static void loadsBehindForecasts() {
        String text = RIGHTS + "season 99 98 97;years 96 95;loss 50;lease 0 1 0 9 9 9;option 1 0 0 200 99 9;";
        String small = "reach 5 5;accounts 3;right 2 0 9 9;";
        String due = Use.allOf(Use.of(small));
        WaterExchange x = Use.of(text);
        x.setKeep(0, 100);
        x.run(3);
        x.release(0, 0, 1);
        x.transfer(0, 1, 77);
        x.expected(0, 36);
        Use.put(x, small);
        x.load();
        CHECK.same("4: behind a forecast", Use.allOf(x), due);
        CHECK.same("4: behind a forecast", x.season(0) * 1000 + x.yearPercent(0), 100100);
        WaterExchange y = Use.of("");
        Use.put(y, text + "x");
        CHECK.refuses("4: no match", IllegalArgumentException.class, y::load);
        Use.put(y, small);
        y.load();
        CHECK.same("4: behind a text that did not match", Use.allOf(y), due);
    }

    private static void refusedLoads() {
        WaterExchange x = Use.of(RIGHTS);
        x.setKeep(0, 100);
        x.run(2);
        x.save(1);
        int length = x.formatClaims();
        String text = Use.formatted(x, length);
        String before = Use.allOf(x).replace("errors -1 0", "errors 10 1");
        Use.put(x, "reach 9 9;x;reach 8 8;accounts 5;loss 3;");
        CHECK.refuses("4: no match", IllegalArgumentException.class, x::load);
        CHECK.same("4: everything else stays", Use.allOf(x), before);
        CHECK.same("4: the formatted text stays", Use.formatted(x, length), text);
        CHECK.fails("4: the buffer is empty on an error", x.truncate(1));
        CHECK.same("4: undo stays", x.undo(), 1);
        CHECK.same("4: the slot stays", x.restore(1), 2);
        Use.put(x, RIVER);
        x.load();
        CHECK.same("5: after a success", x.errorOffset(), -1);
        CHECK.same("6: after a success", x.errorKind(), 0);
    }

    // ---- promises 5 and 6

    private static void wrong(String text, int offset, int kind) {
        WaterExchange x = new WaterExchange();
        Use.put(x, text);
        CHECK.refuses("4: <" + text + ">", IllegalArgumentException.class, x::load);
        CHECK.same("5: <" + text + ">", x.errorOffset(), offset);
        CHECK.same("6: <" + text + ">", x.errorKind(), kind);
        CHECK.same("4: <" + text + "> sets nothing", x.count(0) + x.count(2) + x.count(6), 0);
    }

    private static void wrongAt(String correct, String wrong, int kind) {
        wrong(correct + wrong, correct.length(), kind);
    }

    private static WaterExchange right(String text) {
        WaterExchange x = new WaterExchange();
        Use.put(x, text);
        try {
            x.load();
        } catch (IllegalArgumentException e) {
            CHECK.same("4: <" + text + ">", x.errorOffset() + " " + x.errorKind(), "no error");
        }
        CHECK.same("5: <" + text + ">", x.errorOffset(), -1);
        CHECK.same("6: <" + text + ">", x.errorKind(), 0);
        return x;
    }

    private static void tokens() {
        right("");
        right(" \t\n");
        right("\n\treach\t1\n1 ; \n");
        right("reach1 1;loss3;");
        wrong(";", 0, S);
        wrong("  ;", 2, S);
        wrong("x", 0, S);
        wrong("rea", 0, S);
        wrong("reaches 1 1;", 0, S);
        wrong("xeach 1 1;", 0, S);
        wrong("reacz 1 1;", 0, S);
        wrong("reachz 1 1;", 0, S);
        wrong("reacha 1 1;", 0, S);
        wrong("reac h 1 1;", 0, S);
        wrong("Reach 1 1;", 0, S);
        wrong("reacH 1 1;", 0, S);
        wrong("returns 1 1;", 0, S);
        wrong("12 1;", 0, S);
        wrong("1234 1;", 0, S);
        wrong("reach", 5, S);
        wrong("reach ", 6, S);
        wrong("reach 1", 7, S);
        wrong("reach 1 1", 9, S);
        wrong("reach 1 1 \n ", 12, S);
        wrong("reach 1 1;;", 10, S);
        wrong("reach 1 1; ,", 11, S);
        wrong("reach 1 1,", 9, S);
        wrong("reach 1,1;", 7, S);
        wrong("reach 1\r1;", 7, S);
        wrong("reach 1\u00001;", 7, S);
        wrong("reach 1\u00a01;", 7, S);
        wrong("reach -1 1;", 6, S);
        wrong("reach 1 1 reach 1 1;", 10, S);
        wrong("reach 1 1;`", 10, S);
        wrong("reach 1 1;{", 10, S);
        wrong("reach 1/1;", 7, S);
        wrong("reach 1:1;", 7, S);
    }

    private static void reachLines() {
        WaterExchange x = right("reach 0 999;reach 999 0;reach 007 08;");
        CHECK.same("4: reaches", x.count(0), 3);
        CHECK.same("4: inflow", x.reach(1, 0), 999);
        CHECK.same("4: minimum", x.reach(0, 1), 999);
        CHECK.same("4: leading zeros", x.reach(2, 0) * 10 + x.reach(2, 1), 78);
        wrong("reach 1000 1;", 6, B);
        wrong("reach 0001 1;", 6, B);
        wrong("reach 1 1000;", 8, B);
        wrong("reach 1 99999999999999999999;", 8, B);
        wrong("reach x 1;", 6, S);
        wrong("reach 1 x;", 8, S);
        wrong("reach ;", 6, S);
        wrong("reach 1 1 1;", 10, S);
        wrong("reach 1 1 1111;", 10, S);
    }

    private static void percentLines() {
        WaterExchange x = right("season 0 200 3 4 5 6 7 8 9 10 11 12;season 50 60;");
        int[] due = {50, 60, 3, 4, 5, 6, 7, 8, 9, 10, 11, 12};
        for (int month = 0; month < 12; month++) {
            CHECK.same("4: season", x.season(month), due[month]);
        }
        CHECK.same("4: the rest of a season", right("season 1;").season(1), 100);
        wrong("season;", 6, S);
        wrong("season 201;", 7, B);
        wrong("season 1 1000;", 9, B);
        wrong("season 1 201;", 9, B);
        wrong("season 1 x;", 9, S);
        wrong("season 1", 8, S);
        String twelve = "season 1 2 3 4 5 6 7 8 9 10 11 12 ";
        wrongAt(twelve, "13;", M);
        wrongAt(twelve, "201;", M);
        wrongAt(twelve, "1000;", M);
        wrongAt(twelve, "x;", S);
        x = right("years 1 2 3 4 200;years 7 0;");
        CHECK.same("4: the last years", x.count(7), 2);
        CHECK.same("4: the last years", x.yearPercent(0) * 1000 + x.yearPercent(1), 7000);
        x = right("years 1 2 3;years 7;");
        CHECK.same("4: one in place of three", x.count(7), 1);
        CHECK.same("4: one in place of three", x.yearPercent(1), 7);
        wrong("years;", 5, S);
        wrong("years 201;", 6, B);
        wrong("years 0000;", 6, B);
        wrong("years 1 2 3 4 201;", 14, B);
        wrongAt("years 1 2 3 4 5 ", "6;", M);
        wrongAt("years 1 2 3 4 5 ", "201;", M);
        wrongAt("years 1 2 3 4 5 ", "1000;", M);
        wrongAt("years 1 2 3 4 5 ", "x;", S);
    }

    private static void smallLines() {
        CHECK.same("4: the last loss", right("loss 7;loss 50;loss 0;loss 9;").count(6), 9);
        CHECK.same("4: greatest loss", right("loss 50;").count(6), 50);
        wrong("loss 51;", 5, B);
        wrong("loss;", 4, S);
        wrong("loss 1 1;", 7, S);
        CHECK.same("4: the last accounts", right("accounts 5;accounts 1;accounts 3;").count(1), 3);
        CHECK.same("4: five accounts", right("accounts 5;").count(1), 5);
        wrong("accounts 0;", 9, B);
        wrong("accounts 6;", 9, B);
        wrong("accounts;", 8, S);
        wrong("accounts 1 1;", 11, S);
        wrongAt(RIVER + "right 0 0 1 1;", "accounts 2;", S);
        wrongAt(RIVER + "right 0 0 1 1;", "accounts", S);
        wrongAt(RIVER + "right 0 0 1 1;loss 3;", "accounts 9;", S);
        wrongAt(RIGHTS + "lease 0 0 0 1 1 1;", "accounts 2;", S);
        wrongAt(RIGHTS + "option 0 0 0 1 1 1;", "accounts 2;", S);
        right("accounts 2;" + RIVER);
        right(RIGHTS + "reach 1 1;loss 3;years 5;season 5;");
    }

    private static void rightLines() {
        WaterExchange x = right(RIVER + "right 1 0 99 999 returns 90 1 keeps 100;right 0 1 1 1;right 0 0 2 5keeps 3;"
                + "right 0 1 3 6returns 0 1;");
        int[][] due = {{1, 0, 99, 999, 90, 1, 100}, {0, 1, 1, 1, 0, 1, 0}, {0, 0, 2, 5, 0, 0, 3}, {0, 1, 3, 6, 0, 1, 0}};
        for (int right = 0; right < 4; right++) {
            for (int what = 0; what < 10; what++) {
                CHECK.same("4: right", x.right(right, what), what < 7 ? due[right][what] : 0);
            }
        }
        CHECK.same("4: keeps 0", right(RIVER + "right 0 0 1 1 keeps 0;").right(0, 6), 0);
        CHECK.same("4: keeps 0 behind returns", right(RIVER + "right 0 0 1 1 returns 0 0 keeps 0;").right(0, 4), 0);
        right("reach 1 1;reach 1 1;reach 1 1;right 0 0 1 1 returns 1 2;right 0 1 2 1 returns 1 2;");
        wrong("right 0 0 1 1;", 8, B);
        wrong("right 1 0 1 1;", 6, B);
        wrong("right", 5, S);
        wrongAt(RIVER + "right ", "2 0 1 1;", B);
        wrongAt(RIVER + "right ", "0000 0 1 1;", B);
        wrongAt(RIVER + "right ", "x 0 1 1;", S);
        wrongAt(RIVER + "right 0 ", "2 1 1;", B);
        wrongAt(RIVER + "right 0 0 ", "0 1;", B);
        wrongAt(RIVER + "right 0 0 ", "100 1;", B);
        wrongAt(RIVER + "right 0 0 1 ", "0;", B);
        wrongAt(RIVER + "right 0 0 1 ", "1000;", B);
        wrongAt(RIVER + "right 0 0 1 ", ";", S);
        wrongAt(RIVER + "right 0 0 1 1 ", "1;", S);
        wrongAt(RIVER + "right 0 0 1 1 ", "return 1 1;", S);
        wrongAt(RIVER + "right 0 0 1 1 returns ", "91 0;", B);
        wrongAt(RIVER + "right 0 0 1 1 returns 1 ", "2;", B);
        wrongAt(RIVER + "right 0 0 1 1 returns 1 ", ";", S);
        wrongAt(RIVER + "right 0 0 1 1 returns ", "keeps 1;", S);
        wrongAt(RIVER + "right 0 1 1 1 returns 1 ", "0;", B);
        wrongAt(RIVER + "right 0 1 1 1 keeps ", "101;", B);
        wrongAt(RIVER + "right 0 1 1 1 keeps ", ";", S);
        wrongAt(RIVER + "right 0 1 1 1 keeps 1 ", "returns 1 1;", S);
        wrongAt(RIVER + "right 0 1 1 1 keeps 1 ", "keeps 1;", S);
        wrongAt(RIVER + "right 0 1 1 1 returns 1 1 ", "returns 1 1;", S);
        wrongAt(RIGHTS + "right 0 0 ", "7 1;", T);
        wrongAt(RIGHTS + "right 0 0 ", "008 1;", T);
        wrongAt(RIGHTS + "right 0 0 ", "0007 1;", B);
        wrongAt(RIGHTS + "right 0 0 ", "8", T);
        wrongAt("reach 1 1;right 0 ", "1 1 1;reach 1 1;", B);
    }

    private static void leaseLines() {
        WaterExchange x = right(RIGHTS + "lease 1 0 1 999 99 36;lease 0 1 0 1 0 1;");
        int[][] due = {{1, 0, 1, 999, 99, 36}, {0, 1, 0, 1, 0, 1}};
        for (int lease = 0; lease < 2; lease++) {
            for (int what = 0; what < 6; what++) {
                CHECK.same("4: lease", x.leaseField(lease, what), due[lease][what]);
            }
        }
        wrongAt(RIVER + "lease ", "0 0 0 1 1 1;", B);
        wrongAt(RIGHTS + "lease ", "2 0 0 1 1 1;", B);
        wrongAt(RIGHTS + "lease 0 ", "2 0 1 1 1;", B);
        wrongAt(RIGHTS + "lease 0 0 ", "2 1 1 1;", B);
        wrongAt(RIGHTS + "lease 0 0 0 ", "0 1 1;", B);
        wrongAt(RIGHTS + "lease 0 0 0 ", "1000 1 1;", B);
        wrongAt(RIGHTS + "lease 0 0 0 1 ", "100 1;", B);
        wrongAt(RIGHTS + "lease 0 0 0 1 1 ", "0;", B);
        wrongAt(RIGHTS + "lease 0 0 0 1 1 ", "37;", B);
        wrongAt(RIGHTS + "lease 0 0 0 1 1 ", ";", S);
        wrongAt(RIGHTS + "lease 0 0 0 1 1 1 ", "1;", S);
    }

    private static void optionLines() {
        WaterExchange x = right(RIGHTS + "option 1 0 1 200 999 99;option 0 1 0 1 0 0;");
        int[][] due = {{1, 0, 1, 200, 999, 99, 1}, {0, 1, 0, 1, 0, 0, 0}};
        for (int option = 0; option < 2; option++) {
            for (int what = 0; what < 7; what++) {
                CHECK.same("4: option", x.optionField(option, what), due[option][what]);
            }
        }
        wrong("option 0 0 0 1 1 1;", 7, B);
        wrong("option", 6, S);
        wrongAt(RIGHTS + "option ", "2 0 0 1 1 1;", B);
        wrongAt(RIGHTS + "option 0 ", "2 0 1 1 1;", B);
        wrongAt(RIGHTS + "option 0 0 ", "2 1 1 1;", B);
        wrongAt(RIGHTS + "option 0 0 0 ", "0 1 1;", B);
        wrongAt(RIGHTS + "option 0 0 0 ", "201 1 1;", B);
        wrongAt(RIGHTS + "option 0 0 0 1 ", "1000 1;", B);
        wrongAt(RIGHTS + "option 0 0 0 1 1 ", "100;", B);
        wrongAt(RIGHTS + "option 0 0 0 1 1 1 ", "1;", S);
        wrongAt(RIGHTS + "option 0 0 0 1 1 1;option ", "0 0 0 1 1 1;", T);
        wrongAt(RIGHTS + "option 1 0 0 1 1 1;option ", "1", T);
        wrongAt(RIGHTS + "option 0 0 0 1 1 1;option ", "2 0 0 1 1 1;", B);
    }

    private static void tooMany() {
        String reaches = "reach 1 1;".repeat(6);
        right(reaches);
        wrongAt(reaches, "reach 1 1;", M);
        wrongAt(reaches, "reach", M);
        wrongAt(reaches, "reach x", M);
        wrongAt(reaches, "reac", S);
        StringBuilder rights = new StringBuilder("reach 1 1;");
        for (int i = 1; i <= 10; i++) {
            rights.append("right 0 0 ").append(i).append(" 1;");
        }
        right(rights.toString());
        wrongAt(rights.toString(), "right 0 0 11 1;", M);
        wrongAt(rights.toString(), "right 9 9 1 1;", M);
        String leases = RIGHTS + "lease 0 0 0 1 1 1;".repeat(8);
        right(leases);
        wrongAt(leases, "lease 0 0 0 1 1 1;", M);
        StringBuilder options = new StringBuilder(rights);
        for (int i = 0; i < 6; i++) {
            options.append("option ").append(i).append(" 0 0 1 1 1;");
        }
        right(options.toString());
        wrongAt(options.toString(), "option 6 0 0 1 1 1;", M);
        wrongAt(options.toString(), "option 0 0 0 1 1 1;", M);
    }

    private static void wholeBuffer() {
        String text = "loss 1;".repeat(128) + "    ";
        CHECK.same("2: 900 bytes", text.length(), 900);
        CHECK.same("4: 900 bytes", right(text).count(6), 1);
        String words = "x".repeat(900);
        wrong(words, 0, S);
        wrong("loss 2;".repeat(128) + "loss", 900, S);
        wrong("reach " + "1".repeat(894), 6, B);
    }
}
