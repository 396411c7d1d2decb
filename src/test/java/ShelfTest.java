import java.lang.management.ManagementFactory;
import java.lang.reflect.Array;
import java.lang.reflect.Field;
import java.lang.reflect.Modifier;
import java.util.ArrayDeque;
import java.util.Collections;
import java.util.IdentityHashMap;
import java.util.Set;

/** All calls of one run share a room: a desk is small, and its calls make nothing beside what it was made with. */
public final class ShelfTest {
    private static final int MOST_OBJECTS = 150;
    private static final int MOST_PARTS = 5000;
    private static final String TEXT = "state 3;state 2;state 1;begin 0 / ;arc 1 0 a- b- c- d- / r- ;"
            + "arc 0 1 a+ b+ c+ d+ / r+ ;gate p a b'";

    public static void main(String[] args) throws IllegalAccessException {
        boolean small = isSmall(new BurstDesk());
        boolean still = makesNothing();
        if (!small || !still) {
            System.exit(1);
        }
    }

    private static boolean isSmall(BurstDesk desk) throws IllegalAccessException {
        Set<Object> seen = Collections.newSetFromMap(new IdentityHashMap<>());
        ArrayDeque<Object> open = new ArrayDeque<>();
        open.add(desk);
        int parts = 0;
        while (!open.isEmpty()) {
            Object it = open.remove();
            if (!seen.add(it)) {
                continue;
            }
            if (it.getClass().isArray()) {
                int length = Array.getLength(it);
                parts += length;
                for (int i = 0; i < length && !it.getClass().getComponentType().isPrimitive(); i++) {
                    open.add(Array.get(it, i));
                }
                continue;
            }
            for (Field field : it.getClass().getDeclaredFields()) {
                if (!Modifier.isStatic(field.getModifiers())) {
                    parts++;
                    field.setAccessible(true);
                    if (!field.getType().isPrimitive()) {
                        open.add(field.get(it));
                    }
                }
            }
        }
        System.out.println("a desk: " + seen.size() + " objects, " + parts + " fields and elements");
        return seen.size() <= MOST_OBJECTS && parts <= MOST_PARTS;
    }

    /** The first rounds load classes; a later one shows what the calls themselves make. */
    private static boolean makesNothing() {
        com.sun.management.ThreadMXBean threads = (com.sun.management.ThreadMXBean) ManagementFactory.getThreadMXBean();
        long made = Long.MAX_VALUE;
        for (int round = 0; round < 50; round++) {
            BurstDesk desk = new BurstDesk();
            Texts.machine(desk, TEXT);
            Texts.feed(desk, TEXT);
            long before = threads.getCurrentThreadAllocatedBytes();
            useAll(desk);
            made = Math.min(made, threads.getCurrentThreadAllocatedBytes() - before);
        }
        System.out.println("its calls: " + made + " bytes");
        return made == 0;
    }

    private static void useAll(BurstDesk desk) {
        desk.machine(TEXT.length());
        for (int f = 0; f < 5; f++) {
            desk.required(f);
            desk.fewest(f);
            desk.formula(f);
            desk.glitch(f);
            desk.run(f, 728, true);
            desk.run(f, 728, false);
            desk.runBurst(f, 0, false);
        }
        desk.codings(4);
        desk.coding(3, 0);
        desk.settles(0);
        desk.push(0);
        desk.shown();
        for (int i = 0; i < 14; i++) {
            desk.recode(0, i % 4);
            desk.add(0, i);
        }
        desk.strike(0);
        desk.undo();
        desk.machine(0);
    }
}
