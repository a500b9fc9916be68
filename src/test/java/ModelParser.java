import java.util.ArrayList;
import java.util.HashSet;
import java.util.List;
import java.util.Set;
import java.util.regex.Matcher;
import java.util.regex.Pattern;

/** The input text of the document for the Model: all tokens first, then the lines. */
final class ModelParser {
    private static final class Wrong extends RuntimeException {
        private static final long serialVersionUID = 1;
    }

    private static final Pattern TOKEN = Pattern.compile("[a-z]+|[0-9]+|[^ \t\n]", Pattern.DOTALL);
    private static final Set<String> CLOSERS = Set.of("right", "lease", "option");

    int errorOffset = -1, errorKind = 0;
    private final List<String> tokens = new ArrayList<>();
    private final List<Integer> offsets = new ArrayList<>();
    private int at = 0;
    private final Model.World w = new Model.World();
    private boolean accountsClosed = false;

    ModelParser(byte[] bytes) {
        String text = new String(bytes, java.nio.charset.StandardCharsets.ISO_8859_1);
        Matcher m = TOKEN.matcher(text);
        while (m.find()) {
            tokens.add(m.group());
            offsets.add(m.start());
        }
        tokens.add("");
        offsets.add(text.length());
    }

    Model.World parse() {
        try {
            while (!peek().isEmpty()) {
                line();
                if (!peek().equals(";")) wrong(1);
                at++;
            }
            return w;
        } catch (Wrong e) {
            return null;
        }
    }

    private String peek() {
        return tokens.get(at);
    }

    private void wrong(int kind) {
        errorKind = kind;
        errorOffset = offsets.get(at);
        throw new Wrong();
    }

    private boolean atNumber() {
        return !peek().isEmpty() && "0123456789".indexOf(peek().charAt(0)) >= 0;
    }

    private int value(int low, int high) {
        if (!atNumber()) wrong(1);
        if (peek().length() > 3) wrong(2);
        int v = Integer.parseInt(peek());
        if (v < low || v > high) wrong(2);
        return v;
    }

    private int number(int low, int high) {
        int v = value(low, high);
        at++;
        return v;
    }

    private void line() {
        String word = peek();
        if (CLOSERS.contains(word)) accountsClosed = true;
        switch (word) {
            case "reach": {
                if (w.reaches.size() == 6) wrong(4);
                at++;
                w.reaches.add(new int[] {number(0, 999), number(0, 999), 0});
                break;
            }
            case "season": {
                at++;
                int n = 0;
                do {
                    if (n == 12) wrong(4);
                    w.seasons[n++] = number(0, 200);
                } while (atNumber());
                break;
            }
            case "years": {
                at++;
                w.years.clear();
                do {
                    if (w.years.size() == 5) wrong(4);
                    w.years.add(number(0, 200));
                } while (atNumber());
                break;
            }
            case "loss":
                at++;
                w.loss = number(0, 50);
                break;
            case "accounts": {
                if (accountsClosed) wrong(1);
                at++;
                int n = number(1, 5);
                w.balances = new long[n];
                w.banks = new int[n];
                w.gots = new int[n];
                break;
            }
            case "right":
                right();
                break;
            case "lease": {
                if (w.leases.size() == 8) wrong(4);
                at++;
                w.leases.add(new Model.Lease(number(0, w.rights.size() - 1), number(0, w.banks.length - 1),
                        number(0, w.reaches.size() - 1), number(1, 999), number(0, 99), number(1, 36)));
                break;
            }
            case "option": {
                if (w.options.size() == 6) wrong(4);
                at++;
                int right = value(0, w.rights.size() - 1);
                for (Model.Option o : w.options) if (o.right == right) wrong(3);
                at++;
                w.options.add(new Model.Option(right, number(0, w.banks.length - 1),
                        number(0, w.reaches.size() - 1), number(1, 200), number(0, 999), number(0, 99)));
                break;
            }
            default:
                wrong(1);
        }
    }

    private void right() {
        if (w.rights.size() == 10) wrong(4);
        at++;
        Model.Right r = new Model.Right();
        r.account = number(0, w.banks.length - 1);
        r.reach = number(0, w.reaches.size() - 1);
        r.priority = value(1, 99);
        Set<Integer> taken = new HashSet<>();
        for (Model.Right o : w.rights) taken.add(o.priority);
        if (taken.contains(r.priority)) wrong(3);
        at++;
        r.amount = number(1, 999);
        r.returnReach = r.reach;
        if (peek().equals("returns")) {
            at++;
            r.returnPercent = number(0, 90);
            r.returnReach = number(r.reach, w.reaches.size() - 1);
        }
        if (peek().equals("keeps")) {
            at++;
            r.keepPercent = number(0, 100);
        }
        w.rights.add(r);
    }
}
