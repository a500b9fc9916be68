import java.util.List;

/**
 * One kind of line of the input text: the lines that it needs ahead of it, its first tokens, and the least and the
 * greatest value of each number behind these. A line that may have fewer numbers is told with all of them.
 */
record Line(String ahead, String head, int[] least, int[] most) {
    static final String RIVER = "reach 1 1;reach 1 1;reach 1 1;accounts 3;";
    static final String RIGHTS = RIVER + "right 0 0 50 9;right 1 1 51 9;";

    static final Line REACH = new Line("", "reach", new int[] {0, 0}, new int[] {999, 999});
    static final Line SEASON = new Line("", "season", new int[12], repeated(200, 12));
    static final Line YEARS = new Line("", "years", new int[5], repeated(200, 5));
    static final Line LOSS = new Line("", "loss", new int[] {0}, new int[] {50});
    static final Line ACCOUNTS = new Line("", "accounts", new int[] {1}, new int[] {5});
    static final Line RIGHT = new Line(RIVER, "right", new int[] {0, 0, 1, 1}, new int[] {2, 2, 99, 999});
    static final Line RETURNS = new Line(RIVER, "right 0 1 9 9 returns", new int[] {0, 1}, new int[] {90, 2});
    static final Line KEEPS = new Line(RIVER, "right 0 1 9 9 keeps", new int[] {0}, new int[] {100});
    static final Line BOTH = new Line(RIVER, "right 0 1 9 9 returns 7 2 keeps", new int[] {0}, new int[] {100});
    static final Line LEASE = new Line(RIGHTS, "lease", new int[] {0, 0, 0, 1, 0, 1},
            new int[] {1, 2, 2, 999, 99, 36});
    static final Line OPTION = new Line(RIGHTS, "option", new int[] {0, 0, 0, 1, 0, 0},
            new int[] {1, 2, 2, 200, 999, 99});
    static final List<Line> ALL = List.of(REACH, SEASON, YEARS, LOSS, ACCOUNTS, RIGHT, RETURNS, KEEPS, BOTH, LEASE,
            OPTION);

    private static int[] repeated(int value, int times) {
        int[] values = new int[times];
        java.util.Arrays.fill(values, value);
        return values;
    }

    int numbers() {
        return least.length;
    }

    /** "season" and "years" alone: a number behind the first one may be missing. */
    boolean mayEndBehind(int numbers) {
        return numbers == numbers() || numbers > 0 && (this == SEASON || this == YEARS);
    }

    /** The text up to the number of this index, those ahead of it with their least values. */
    String upTo(int number) {
        StringBuilder text = new StringBuilder(ahead).append(head).append(' ');
        for (int i = 0; i < number; i++) {
            text.append(least[i]).append(' ');
        }
        return text.toString();
    }

    /** The rest of the line behind the number of this index. */
    String behind(int number) {
        StringBuilder text = new StringBuilder();
        for (int i = number + 1; i < numbers(); i++) {
            text.append(' ').append(least[i]);
        }
        return text.append(';').toString();
    }

    String withNumber(int number, int value) {
        return upTo(number) + value + behind(number);
    }
}
