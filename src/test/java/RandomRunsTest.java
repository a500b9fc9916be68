import java.lang.reflect.InvocationTargetException;
import java.lang.reflect.Method;
import java.lang.reflect.Modifier;
import java.nio.charset.StandardCharsets;
import java.util.ArrayList;
import java.util.Arrays;
import java.util.HashMap;
import java.util.List;
import java.util.Map;

/** Promises 1 to 58: runs of up to 512 calls, always the same ones, each answered as the Model answers it. */
public final class RandomRunsTest {
    private static final int CALLS = 512;

    // For each call its share and a sign for each parameter (see argument).
    private static final String[] FORMS = {
        "append 1 iiiii", "truncate 1 t", "load 1 ", "errorOffset 2 ", "errorKind 2 ",
        "count 4 w", "season 1 w", "yearPercent 2 y", "reach 4 hw", "coming 4 h", "balance 6 a", "bank 6 a",
        "right 12 rw", "bySeniority 3 r", "leaseField 5 lw", "optionField 4 ow",
        "claims 3 ", "claim 14 cw", "gauge 10 hw", "call 4 ", "dryGauges 4 ", "served 4 ", "outflow 3 ",
        "isBalanced 2 ", "history 6 dw", "meanGot 3 ",
        "got 5 a", "earned 4 r", "bankedInAll 3 ", "lostInAll 3 ", "releasedInAll 3 ", "areAccountsRight 2 ",
        "richest 2 ",
        "expected 2 rm", "cutMonths 2 rm", "balanceAfter 2 am", "driestMonth 2 m", "nextExercise 2 ", "free 4 h",
        "bestReach 4 r", "injured 5 rhv", "blocked 5 r",
        "run 12 m", "lease 9 rahvpm", "endLease 2 l", "release 6 ahb", "setKeep 4 rk", "setMinimum 4 hn",
        "transfer 4 rax", "swap 4 rr", "undo 5 ", "undoDepth 3 ", "save 2 s", "restore 2 s",
        "formatClaims 3 ", "formatRiver 2 ", "formattedByte 4 f",
    };

    private long seed;
    private final Map<String, Method> face = new HashMap<>();
    private final Map<String, Method> model = new HashMap<>();
    private final List<String[]> drawn = new ArrayList<>();
    private final Check check = new Check();
    private final int[] answers = new int[FORMS.length];

    public static void main(String[] args) throws Exception {
        long first = args.length > 0 ? Long.parseLong(args[0]) : 1;
        int runs = args.length > 1 ? Integer.parseInt(args[1]) : 600;
        RandomRunsTest test = new RandomRunsTest();
        test.findMethods();
        for (int run = 0; run < runs && test.playRun(first + run); run++) {
            test.seed = 0;
        }
        test.check.end();
    }

    private void findMethods() {
        for (Method m : WaterExchange.class.getDeclaredMethods()) {
            if (Modifier.isPublic(m.getModifiers())) {
                face.put(m.getName(), m);
            }
        }
        for (Method m : Model.class.getDeclaredMethods()) {
            if (Modifier.isPublic(m.getModifiers())) {
                m.setAccessible(true);
                model.put(m.getName(), m);
            }
        }
        check.same("methods of the face", face.size(), FORMS.length);
        for (String form : FORMS) {
            String[] parts = form.split(" ", 3);
            for (int i = 0; i < Integer.parseInt(parts[1]); i++) {
                drawn.add(parts);
            }
        }
    }

    private int draw(int end) {
        seed = seed * 6364136223846793005L + 1442695040888963407L;
        return (int) ((seed >>> 33) % end);
    }

    private int between(int low, int high) {
        return low + draw(high - low + 1);
    }

    // ---- one run

    private boolean playRun(long number) throws Exception {
        seed = number * 7919;
        for (int i = 0; i < 5; i++) {
            draw(2);
        }
        WaterExchange x = new WaterExchange();
        Model m = new Model();
        List<String> told = new ArrayList<>();
        int calls = 0;
        while (calls < CALLS) {
            if (calls == 0 || draw(150) == 0) {
                byte[] bytes = RandomTexts.make(this::draw);
                calls += 48;
                if (calls > CALLS) {
                    break;
                }
                told.add("text <" + new String(bytes, StandardCharsets.ISO_8859_1) + ">");
                if (!loadBoth(x, m, bytes, number, told)) {
                    return false;
                }
                continue;
            }
            String[] form = drawn.get(draw(drawn.size()));
            Object[] arguments = new Object[form[2].length()];
            for (int i = 0; i < arguments.length; i++) {
                arguments[i] = argument(form[2].charAt(i), m);
            }
            calls++;
            if (!same(x, m, form[0], arguments, number, told)) {
                return false;
            }
        }
        return true;
    }

    private boolean loadBoth(WaterExchange x, Model m, byte[] bytes, long number, List<String> told) throws Exception {
        x.truncate(0);
        m.truncate(0);
        int padded = (bytes.length + 19) / 20 * 20;
        java.nio.ByteBuffer b = java.nio.ByteBuffer.wrap(Arrays.copyOf(bytes, padded));
        while (b.remaining() > 0) {
            Object[] words = {b.getInt(), b.getInt(), b.getInt(), b.getInt(), b.getInt()};
            if (!same(x, m, "append", words, number, told)) {
                return false;
            }
        }
        return same(x, m, "truncate", new Object[] {bytes.length}, number, told)
                && same(x, m, "load", new Object[0], number, told)
                && same(x, m, "errorOffset", new Object[0], number, told)
                && same(x, m, "errorKind", new Object[0], number, told);
    }

    private boolean same(WaterExchange x, Model m, String name, Object[] arguments, long number, List<String> told)
            throws Exception {
        String got = ask(face.get(name), x, arguments);
        String due = ask(model.get(name), m, arguments);
        told.add(name + Arrays.toString(arguments) + " = " + got);
        check.same("run " + number + " " + name, got, due);
        if (!got.equals(due)) {
            for (String line : told) {
                System.out.println("  " + line);
            }
        }
        return got.equals(due);
    }

    private static String ask(Method method, Object object, Object[] arguments) throws Exception {
        try {
            return String.valueOf(method.invoke(object, arguments));
        } catch (InvocationTargetException e) {
            return "throws." + e.getCause().getClass().getSimpleName();
        }
    }

    // ---- arguments

    private int near(int count) {
        if (draw(25) == 0) {
            return draw(3) == 0 ? strange() : draw(2) == 0 ? -1 : count;
        }
        return draw(Math.max(count, 1));
    }

    private int strange() {
        int[] some = {Integer.MIN_VALUE, Integer.MAX_VALUE, -2, 1000, 31, 32, 64, 10000, -999};
        return some[draw(some.length)];
    }

    private int within(int low, int high) {
        if (draw(25) == 0) {
            return draw(3) == 0 ? strange() : draw(2) == 0 ? low - 1 : high + 1;
        }
        return draw(8) == 0 ? (draw(2) == 0 ? low : high) : between(low, high);
    }

    private int argument(char sign, Model m) {
        switch (sign) {
            case 'i': return draw(3) == 0 ? 0x20202020 : strange();
            case 't': return within(0, 40);
            case 'w': return draw(12);
            case 'y': return within(0, 100);
            case 'h': return near(m.count(0));
            case 'a': return near(m.count(1));
            case 'r': return near(m.count(2));
            case 'l': return near(m.count(3));
            case 'o': return near(m.count(4));
            case 'c': return near(m.claims());
            case 'd': return within(0, 24);
            case 'm': return draw(3) > 0 ? between(1, 3) : within(1, 36);
            case 'v': return draw(3) == 0 ? within(1, 999) : between(1, 120);
            case 'p': return within(0, 99);
            case 'b': return draw(4) == 0 ? within(1, 400) : between(1, 30);
            case 'k': return within(0, 100);
            case 'n': return draw(3) == 0 ? within(0, 999) : between(0, 60);
            case 'x': return within(0, 9999);
            case 's': return draw(30) == 0 ? strange() : draw(2);
            case 'f': return within(0, 60);
            default: throw new IllegalStateException("sign " + sign);
        }
    }
}
