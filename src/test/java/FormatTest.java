/** Promises 56 to 58: formatted text. */
public final class FormatTest {
    private static final Check CHECK = new Check();

    public static void main(String[] args) {
        empty();
        claims();
        rivers();
        replacing();
        CHECK.end();
    }

    private static void same(String what, WaterExchange x, int length, String due) {
        CHECK.same(what + " length", length, due.length());
        CHECK.same(what, Use.formatted(x, due.length()), due);
        CHECK.same("58: behind the end", x.formattedByte(due.length()), -1);
        CHECK.same("58: ahead of the text", x.formattedByte(-1), -1);
        CHECK.same("58: least int", x.formattedByte(Integer.MIN_VALUE), -1);
        CHECK.same("58: greatest int", x.formattedByte(Integer.MAX_VALUE), -1);
    }

    private static void empty() {
        WaterExchange x = new WaterExchange();
        CHECK.same("58: no text yet", x.formattedByte(0), -1);
        same("56: no claims", x, x.formatClaims(), "");
        same("57: no reaches", x, x.formatRiver(), "");
        x = Use.of("reach 5 5;");
        same("57: no month", x, x.formatRiver(), "0");
        x = Use.of("reach 5 5;reach 5 5;reach 5 5;");
        same("57: no month", x, x.formatRiver(), "0>0>0");
        x.run(1);
        same("56: no rights", x, x.formatClaims(), "");
    }

    private static void claims() {
        WaterExchange x = Use.of("reach 200 0;reach 0 0;years 100 50;accounts 3;"
                + "right 0 0 5 100 returns 40 1 keeps 50;right 1 1 3 40;lease 0 1 0 30 7 2;option 0 2 1 60 25 9;");
        same("56: no month", x, x.formatClaims(), "");
        x.run(1);
        same("56: by seniority", x, x.formatClaims(), "r1:40/40 l0:18/18 r0:70/70");
        x.run(12);
        same("56: an option", x, x.formatClaims(), "r1:40/40 o0:60/60");
        StringBuilder all = new StringBuilder("reach 999 0;");
        StringBuilder due = new StringBuilder();
        for (int i = 0; i < 10; i++) {
            all.append("right 0 0 ").append(10 - i).append(" 999;");
        }
        for (int i = 0; i < 8; i++) {
            all.append("lease 0 0 0 100 0 9;");
        }
        for (int i = 9; i > 0; i--) {
            due.append('r').append(i).append(i == 9 ? ":999/999 " : ":0/999 ");
        }
        due.append("l0:0/100 ".repeat(8)).append("r0:0/199");
        x = Use.of(all.toString());
        x.run(1);
        same("56: all of 18 claims", x, x.formatClaims(), due.toString());
    }

    private static void rivers() {
        WaterExchange x = Use.of("reach 100 0;reach 0 0;reach 999 0;right 0 0 1 100 returns 50 2;");
        x.run(1);
        same("57: one with 0", x, x.formatRiver(), "0>0>1049");
        x = Use.of("reach 999 0;".repeat(6) + "season 200;years 200;");
        x.run(1);
        same("57: the greatest", x, x.formatRiver(), "3996>7992>11988>15984>19980>23976");
        x.undo();
        same("57: no month again", x, x.formatRiver(), "0>0>0>0>0>0");
    }

    private static void replacing() {
        WaterExchange x = Use.of("reach 50 0;right 0 0 1 20;");
        x.run(1);
        same("56: first", x, x.formatClaims(), "r0:20/20");
        x.setMinimum(0, 40);
        x.run(1);
        same("58: the text stays till it is formatted anew", x, 8, "r0:20/20");
        same("57: in its place", x, x.formatRiver(), "40");
        same("56: in its place", x, x.formatClaims(), "r0:10/20");
        Use.put(x, "x");
        CHECK.refuses("4: no match", IllegalArgumentException.class, x::load);
        same("58: a refused load leaves it", x, 8, "r0:10/20");
        Use.put(x, "");
        x.load();
        same("58: a load leaves it", x, 8, "r0:10/20");
        same("56: replaced by nothing", x, x.formatClaims(), "");
    }
}
