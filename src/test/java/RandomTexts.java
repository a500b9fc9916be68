import java.nio.charset.StandardCharsets;
import java.util.function.IntUnaryOperator;

/** Texts for RandomRunsTest: most of them correct, some with a slip. */
final class RandomTexts {
    private final IntUnaryOperator draw;
    private final StringBuilder text = new StringBuilder();

    private RandomTexts(IntUnaryOperator draw) {
        this.draw = draw;
    }

    static byte[] make(IntUnaryOperator draw) {
        RandomTexts t = new RandomTexts(draw);
        t.writeAll();
        byte[] bytes = t.text.toString().getBytes(StandardCharsets.ISO_8859_1);
        for (int slips = draw.applyAsInt(4) == 0 ? 1 + draw.applyAsInt(2) : 0; slips > 0; slips--) {
            bytes = t.slip(bytes);
        }
        return bytes.length > 900 ? java.util.Arrays.copyOf(bytes, 900) : bytes;
    }

    private int draw(int end) {
        return draw.applyAsInt(end);
    }

    private int between(int low, int high) {
        return draw(30) == 0 ? (draw(2) == 0 ? low : high) : low + draw(high - low + 1);
    }

    private void put(Object... tokens) {
        for (Object token : tokens) {
            text.append(token);
            text.append(draw(20) == 0 ? "\n\t " : " ");
        }
        text.setLength(text.length() - 1);
        text.append(draw(10) == 0 ? " ;\n" : ";");
    }

    private String rest(int count, int low, int high) {
        StringBuilder numbers = new StringBuilder();
        for (int i = 0; i < count; i++) {
            numbers.append(i > 0 ? " " : "").append(between(low, high));
        }
        return numbers.toString();
    }

    private void writeAll() {
        int reaches = 1 + draw(6);
        int accounts = 1 + draw(5);
        int rights = draw(11);
        int wet = draw(3) == 0 ? 999 : 200;
        for (int i = 0; i < reaches; i++) {
            put("reach", between(0, wet), draw(3) == 0 ? 0 : between(0, 80));
        }
        if (draw(2) == 0) {
            put("season", rest(1 + draw(12), 0, 200));
        }
        if (draw(3) > 0) {
            put("years", rest(1 + draw(5), 0, 200));
        }
        if (draw(2) == 0) {
            put("loss", between(0, 50));
        }
        put("accounts", accounts);
        int stride = 1 + draw(9);
        for (int i = 0; i < rights; i++) {
            writeRight(reaches, accounts, 1 + i * 7 * stride % 97);
        }
        writeTrades(reaches, accounts, rights);
        if (draw(8) == 0) {
            put("season", rest(1 + draw(3), 0, 200));
            put("years", rest(1 + draw(3), 0, 200));
        }
    }

    private void writeRight(int reaches, int accounts, int priority) {
        int reach = draw(reaches);
        StringBuilder more = new StringBuilder();
        if (draw(3) > 0) {
            more.append(" returns ").append(between(0, 90)).append(' ').append(reach + draw(reaches - reach));
        }
        if (draw(2) == 0) {
            more.append(draw(2) == 0 ? " keeps" : "keeps").append(' ').append(between(0, 100));
        }
        put("right", draw(accounts), reach, priority, between(1, draw(4) == 0 ? 999 : 150) + more.toString());
    }

    private void writeTrades(int reaches, int accounts, int rights) {
        if (rights == 0) {
            return;
        }
        for (int i = draw(9); i > 0; i--) {
            put("lease", draw(rights), draw(accounts), draw(reaches), between(1, 120), between(0, 99),
                    between(1, 36));
        }
        int options = Math.min(draw(7), rights);
        int first = draw(rights);
        for (int i = 0; i < options; i++) {
            put("option", (first + i) % rights, draw(accounts), draw(reaches), between(1, 200), between(0, 999),
                    between(0, 99));
        }
    }

    private byte[] slip(byte[] bytes) {
        String s = new String(bytes, StandardCharsets.ISO_8859_1);
        if (s.isEmpty()) {
            return bytes;
        }
        int at = draw(s.length());
        String[] pieces = {";", " ", "9", "0", "1000", "a", "#", "\u00e9", "accounts 2;", "right 0 0 1 1;", "reach 1 1;",
            "returns 5 0", "keeps 5", "lease 0 0 0 1 1 1;", "option 0 0 0 1 1 1;", "years 1 2 3 4 5 6;", "loss 51;"};
        String piece = pieces[draw(pieces.length)];
        switch (draw(5)) {
            case 0:
                s = s.substring(0, at) + s.substring(at + 1);
                break;
            case 1:
                s = s.substring(0, at) + piece + s.substring(at);
                break;
            case 2:
                s = s.substring(0, at);
                break;
            case 3: {
                int end = s.indexOf(';', at) + 1;
                s = s.substring(0, end) + piece + s.substring(end);
                break;
            }
            default:
                s = s.substring(0, at) + (char) (draw(3) == 0 ? draw(256) : '0' + draw(10)) + s.substring(at + 1);
        }
        return s.getBytes(StandardCharsets.ISO_8859_1);
    }
}
