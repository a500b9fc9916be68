import java.lang.reflect.Constructor;
import java.lang.reflect.Field;
import java.lang.reflect.Method;
import java.lang.reflect.Modifier;
import java.util.ArrayList;
import java.util.Arrays;
import java.util.Collections;
import java.util.List;

/** "The public face": its signatures, its constants, and nothing beside them. */
public final class FaceTest {
    private static final String[] FACE = {
        "int append int int int int int", "boolean truncate int", "int load ! IllegalArgumentException",
        "int errorOffset", "int errorKind", "int count int ! NoSuchElementException",
        "int season int ! NoSuchElementException", "int yearPercent int ! NoSuchElementException",
        "int reach int int ! IndexOutOfBoundsException NoSuchElementException",
        "int coming int ! IndexOutOfBoundsException", "long balance int ! IndexOutOfBoundsException",
        "int bank int ! IndexOutOfBoundsException",
        "int right int int ! IndexOutOfBoundsException NoSuchElementException", "int bySeniority int",
        "int leaseField int int ! IndexOutOfBoundsException NoSuchElementException",
        "int optionField int int ! IndexOutOfBoundsException NoSuchElementException", "int claims",
        "int claim int int ! IndexOutOfBoundsException NoSuchElementException",
        "int gauge int int ! IndexOutOfBoundsException NoSuchElementException", "int call", "int dryGauges",
        "double served", "int outflow", "boolean isBalanced", "int history int int ! NoSuchElementException",
        "double meanGot", "int got int ! IndexOutOfBoundsException", "long earned int ! IndexOutOfBoundsException",
        "int bankedInAll", "int lostInAll", "int releasedInAll", "boolean areAccountsRight", "int richest",
        "int expected int int ! IndexOutOfBoundsException IllegalArgumentException",
        "int cutMonths int int ! IndexOutOfBoundsException IllegalArgumentException",
        "long balanceAfter int int ! IndexOutOfBoundsException IllegalArgumentException",
        "int driestMonth int ! IllegalArgumentException IllegalStateException", "int nextExercise",
        "int free int ! IndexOutOfBoundsException", "int bestReach int ! IndexOutOfBoundsException",
        "int injured int int int ! IndexOutOfBoundsException IllegalArgumentException",
        "int blocked int ! IndexOutOfBoundsException",
        "int run int ! IllegalArgumentException IllegalStateException",
        "int lease int int int int int int ! IndexOutOfBoundsException IllegalArgumentException IllegalStateException",
        "int endLease int ! IndexOutOfBoundsException",
        "int release int int int ! IndexOutOfBoundsException IllegalArgumentException IllegalStateException",
        "int setKeep int int ! IndexOutOfBoundsException IllegalArgumentException",
        "int setMinimum int int ! IndexOutOfBoundsException IllegalArgumentException",
        "int transfer int int int ! IndexOutOfBoundsException IllegalArgumentException",
        "int swap int int ! IndexOutOfBoundsException IllegalStateException", "int undo", "int undoDepth",
        "boolean save int ! IndexOutOfBoundsException",
        "int restore int ! IndexOutOfBoundsException IllegalStateException", "int formatClaims", "int formatRiver",
        "int formattedByte int",
    };

    public static void main(String[] args) throws Exception {
        Check check = new Check();
        Class<?> c = WaterExchange.class;
        check.same("modifiers of the class", c.getModifiers(), Modifier.PUBLIC | Modifier.FINAL);
        List<String> due = new ArrayList<>(Arrays.asList(FACE));
        List<String> got = new ArrayList<>();
        List<String> hidden = new ArrayList<>();
        for (Method m : c.getDeclaredMethods()) {
            if (Modifier.isPublic(m.getModifiers())) {
                check.fails("static " + m.getName(), Modifier.isStatic(m.getModifiers()));
                got.add(told(m));
            } else if (!m.isSynthetic()) {
                check.holds("private " + m.getName(), Modifier.isPrivate(m.getModifiers()));
                hidden.add(m.getName());
            }
        }
        Collections.sort(due);
        Collections.sort(got);
        check.same("methods", String.join("\n", got), String.join("\n", due));
        for (Method m : c.getDeclaredMethods()) {
            if (Modifier.isPublic(m.getModifiers())) {
                check.fails("hidden method with the public name " + m.getName(), hidden.contains(m.getName()));
            }
        }
        check.same("constructors", c.getDeclaredConstructors().length, 1);
        for (Constructor<?> made : c.getDeclaredConstructors()) {
            check.same("constructor", made.getModifiers() + " " + made.getParameterCount(), Modifier.PUBLIC + " 0");
        }
        checkFields(check, c);
        check.end();
    }

    private static String told(Method m) {
        StringBuilder s = new StringBuilder(m.getReturnType() + " " + m.getName());
        for (Class<?> p : m.getParameterTypes()) {
            s.append(' ').append(p);
        }
        if (m.getExceptionTypes().length > 0) {
            s.append(" !");
        }
        for (Class<?> e : m.getExceptionTypes()) {
            s.append(' ').append(e.getSimpleName());
        }
        return s.toString();
    }

    private static void checkFields(Check check, Class<?> c) throws Exception {
        List<String> got = new ArrayList<>();
        for (Field f : c.getDeclaredFields()) {
            boolean isPublic = Modifier.isPublic(f.getModifiers());
            check.holds("public or private " + f.getName(), isPublic || Modifier.isPrivate(f.getModifiers()));
            if (isPublic) {
                check.same(f.getName(), Modifier.toString(f.getModifiers()) + " " + f.getType(),
                        "public static final int");
                got.add(f.getName() + " " + f.getInt(null));
            }
        }
        Collections.sort(got);
        check.same("constants", got.toString(),
                "[BAD_NUMBER 2, LEASE 1, NONE -1, OPTION 2, OWN 0, SYNTAX 1, TOO_MANY 4, TWICE 3]");
    }
}
