import com.sun.management.ThreadMXBean;
import java.lang.management.ManagementFactory;
import java.lang.reflect.Array;
import java.lang.reflect.Field;
import java.lang.reflect.Modifier;
import java.util.ArrayDeque;
import java.util.Collections;
import java.util.Deque;
import java.util.IdentityHashMap;
import java.util.Set;

/** All calls of one run live in one room: an object is small, and its calls make nothing but refusals. */
public final class RoomTest {
    private static final int MOST_PARTS = 60;
    private static final int MOST_VALUES = 400;
    private static final int CALLS = 512;

    private static int wrong = 0;

    public static void main(String[] args) throws IllegalAccessException {
        WearHours x = new WearHours();
        int parts = parts(x);
        makeCalls(x);
        check(parts(x) == parts, "512 calls left " + parts(x) + " objects where there were " + parts);
        callsMakeNothing();
        refusalsAreAll();
        System.out.println(parts + " objects in one, " + wrong + " faults");
        if (wrong != 0) {
            System.exit(1);
        }
    }

    private static void check(boolean holds, String fault) {
        if (!holds) {
            wrong++;
            System.out.println(fault);
        }
    }

    private static int parts(WearHours x) throws IllegalAccessException {
        Set<Object> seen = Collections.newSetFromMap(new IdentityHashMap<>());
        Deque<Object> next = new ArrayDeque<>();
        next.add(x);
        seen.add(x);
        int values = 0;
        while (!next.isEmpty()) {
            Object part = next.remove();
            values += part.getClass().isArray() ? elements(part, seen, next) : fields(part, seen, next);
        }
        check(seen.size() <= MOST_PARTS, "an object is made of " + seen.size() + " objects");
        check(values <= MOST_VALUES, "an object has " + values + " fields and elements");
        return seen.size();
    }

    private static int elements(Object array, Set<Object> seen, Deque<Object> next) {
        int length = Array.getLength(array);
        for (int i = 0; i < length && !array.getClass().getComponentType().isPrimitive(); i++) {
            meet(Array.get(array, i), seen, next);
        }
        return length;
    }

    private static int fields(Object part, Set<Object> seen, Deque<Object> next) throws IllegalAccessException {
        int count = 0;
        for (Field f : part.getClass().getDeclaredFields()) {
            if (Modifier.isStatic(f.getModifiers())) {
                continue;
            }
            count++;
            f.setAccessible(true);
            if (!f.getType().isPrimitive()) {
                meet(f.get(part), seen, next);
            }
        }
        return count;
    }

    private static void meet(Object part, Set<Object> seen, Deque<Object> next) {
        if (part != null && seen.add(part)) {
            next.add(part);
        }
    }

    // The least of some rounds counts, as the machine makes things of its own when code first runs.
    private static void callsMakeNothing() {
        ThreadMXBean memory = (ThreadMXBean) ManagementFactory.getThreadMXBean();
        long least = Long.MAX_VALUE;
        for (int round = 0; round < 8; round++) {
            WearHours x = new WearHours();
            long before = memory.getCurrentThreadAllocatedBytes();
            makeCalls(x);
            least = Math.min(least, memory.getCurrentThreadAllocatedBytes() - before);
        }
        check(least == 0, "512 calls that are not refused made " + least + " bytes");
    }

    // 512 calls, none of them refused, with all there may be in the week.
    private static void makeCalls(WearHours x) {
        int made = 0;
        for (int i = 0; i < 8; i++, made++) x.thing(1_000_000, 1_000_000);
        for (int i = 0; i < 6; i++, made++) x.gap(100 - 20 * i, 168);
        for (int i = 0; i < 4; i++, made++) x.person(1, 4 * i, 168);
        for (int i = 0; i < 5; i++, made++) x.repair(i, 1 + i, 1, 7 * i);
        while (made + 22 <= CALLS) {
            x.rules(made % 25, 1_000);
            x.plan();
            x.at(4, 0);
            x.cost();
            x.use(made % 8, 1);
            x.told(made % 8, 2);
            x.left(made % 8, 1_000);
            x.history(made % 8, 4);
            x.permit(7, false);
            x.permit(7, true);
            x.seed(made);
            x.spare(1, 1);
            x.plan();
            x.done();
            for (int i = 0; i < 5; i++) x.repair(i, 1 + i, 1, 0);
            x.plan();
            x.rules(0, 0);
            x.plan();
            made += 22;
        }
        while (made < CALLS) {
            x.plan();
            made++;
        }
    }

    private static void refusalsAreAll() throws IllegalAccessException {
        WearHours x = new WearHours();
        x.thing(9, 9);
        int parts = parts(x);
        for (String call : new String[] {"thing 0 0", "use 1 1", "use 0 0", "told 0 3", "left 0 1001", "permit 0 true",
                "history 0 -1", "gap 1 1", "person 4 0 1", "repair 0 0 0 0", "rules 25 0", "at 0 0", "cost", "done", "spare 4 0"}) {
            Calls.answer(x, call);
            check(parts(x) == parts, call + " is refused, and yet is kept");
        }
    }
}
