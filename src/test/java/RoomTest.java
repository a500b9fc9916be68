import java.lang.reflect.Array;
import java.lang.reflect.Field;
import java.lang.reflect.Modifier;
import java.util.ArrayDeque;
import java.util.Collections;
import java.util.Deque;
import java.util.IdentityHashMap;
import java.util.Set;

/** The room of a run: what an exchange holds, and that calls make next to nothing. */
public final class RoomTest {
    private static final Check CHECK = new Check();
    private static final String TEXT = "reach 200 10;".repeat(6) + "years 50 100;accounts 5;loss 5;" + rights()
            + "lease 0 1 2 20 4 36;".repeat(8) + "option 1 0 1 60 10 3;option 2 0 5 200 10 3;";

    public static void main(String[] args) throws Exception {
        WaterExchange x = Use.of(TEXT);
        long[] made = countFrom(x);
        System.out.println("an exchange holds " + made[0] + " objects and arrays, " + made[1] + " fields and elements");
        // A run may use several objects; a thousand of them still find room.
        CHECK.holds("objects", made[0] < 600);
        CHECK.holds("fields and elements", made[1] < 7300 * 2);
        useAll(x);
        long[] later = countFrom(x);
        CHECK.same("objects after many calls", later[0], made[0]);
        callsMakeNothing();
        CHECK.end();
    }

    private static String rights() {
        StringBuilder rights = new StringBuilder();
        for (int i = 0; i < 10; i++) {
            rights.append("right ").append(i % 5).append(' ').append(i % 6).append(' ').append(90 - i);
            rights.append(" 300 returns 40 5 keeps 10;");
        }
        return rights.toString();
    }

    private static void useAll(WaterExchange x) {
        for (int i = 0; i < 20; i++) {
            x.run(3);
            x.injured(0, 0, 10);
            x.blocked(3);
            x.bestReach(5);
            x.expected(2, 36);
            x.formatClaims();
            x.formatRiver();
            x.save(i % 2);
        }
    }

    private static void callsMakeNothing() {
        com.sun.management.ThreadMXBean bean =
                (com.sun.management.ThreadMXBean) java.lang.management.ManagementFactory.getThreadMXBean();
        WaterExchange x = Use.of(TEXT);
        useAll(x);
        long before = bean.getThreadAllocatedBytes(Thread.currentThread().getId());
        useAll(x);
        long bytes = bean.getThreadAllocatedBytes(Thread.currentThread().getId()) - before;
        System.out.println("160 calls made " + bytes + " bytes");
        CHECK.holds("160 calls make next to nothing", bytes < 100000);
    }

    private static long[] countFrom(Object root) throws Exception {
        Set<Object> seen = Collections.newSetFromMap(new IdentityHashMap<>());
        Deque<Object> open = new ArrayDeque<>();
        open.add(root);
        seen.add(root);
        long cells = 0;
        while (!open.isEmpty()) {
            Object o = open.pop();
            if (o.getClass().isArray()) {
                cells += Array.getLength(o);
                if (!o.getClass().getComponentType().isPrimitive()) {
                    for (Object part : (Object[]) o) {
                        visit(part, seen, open);
                    }
                }
                continue;
            }
            for (Field f : o.getClass().getDeclaredFields()) {
                if (Modifier.isStatic(f.getModifiers())) {
                    continue;
                }
                cells++;
                if (!f.getType().isPrimitive() && o.getClass().getName().startsWith("WaterExchange")) {
                    f.setAccessible(true);
                    visit(f.get(o), seen, open);
                }
            }
        }
        return new long[] {seen.size(), cells};
    }

    private static void visit(Object part, Set<Object> seen, Deque<Object> open) {
        if (part != null && seen.add(part)) {
            open.push(part);
        }
    }
}
