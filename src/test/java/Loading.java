/** What the tests of texts ask again and again. */
final class Loading {
    static final int SYNTAX = 1;
    static final int BAD_NUMBER = 2;
    static final int TWICE = 3;
    static final int TOO_MANY = 4;

    private final Boundary b;

    Loading(Boundary b) {
        this.b = b;
    }

    private static String errorOf(WaterExchange x, String text) {
        Use.put(x, text);
        String outcome = "loaded";
        try {
            x.load();
        } catch (IllegalArgumentException e) {
            outcome = "refused";
        }
        return outcome + " " + x.errorOffset() + " " + x.errorKind();
    }

    WaterExchange correct(String text) {
        WaterExchange x = new WaterExchange();
        b.same("[" + text + "]", errorOf(x, text), "loaded -1 0");
        return x;
    }

    /** The first part is correct as far as it goes; the error is told at the second one's first byte. */
    void wrong(String first, String second, int kind) {
        String text = first + second;
        b.same("[" + text + "]", errorOf(new WaterExchange(), text), "refused " + first.length() + " " + kind);
    }

    void endsTooEarly(String text) {
        wrong(text, "", SYNTAX);
    }

    /** The number of this index can have its least and its greatest value, and none beyond these. */
    void range(Line line, int number) {
        int least = line.least()[number];
        int most = line.most()[number];
        correct(line.withNumber(number, least));
        correct(line.withNumber(number, most));
        if (least > 0) {
            wrong(line.upTo(number), (least - 1) + line.behind(number), BAD_NUMBER);
        }
        wrong(line.upTo(number), (most + 1) + line.behind(number), BAD_NUMBER);
        wrong(line.upTo(number), "-1" + line.behind(number), SYNTAX);
    }
}
