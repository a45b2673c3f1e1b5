import java.lang.reflect.Array;
import java.lang.reflect.Field;
import java.lang.reflect.Modifier;
import java.util.ArrayDeque;
import java.util.Collections;
import java.util.Deque;
import java.util.IdentityHashMap;
import java.util.Set;

/** An object's room: small when it is made, and no call makes anything more. */
public final class RoomTest {

    private static final Check CHECK = new Check("RoomTest");
    private static final com.sun.management.ThreadMXBean THREADS =
            (com.sun.management.ThreadMXBean) java.lang.management.ManagementFactory.getThreadMXBean();

    public static void main(String[] args) throws Exception {
        objectIsSmall();
        callsMakeNothing();
        CHECK.end();
    }

    private static void objectIsSmall() throws Exception {
        NumeralBabel x = new NumeralBabel();
        long[] room = room(x);
        CHECK.holds(room[0] + " objects are at most 300", room[0] <= 300);
        CHECK.holds(room[1] + " fields and elements are at most 12000", room[1] <= 12000);
        work(x);
        long[] after = room(x);
        CHECK.due("objects after calls", room[0], after[0]);
        CHECK.due("fields and elements after calls", room[1], after[1]);
    }

    private static void callsMakeNothing() {
        for (int i = 0; i < 40; i++) {
            work(new NumeralBabel());
        }
        NumeralBabel x = new NumeralBabel();
        long id = Thread.currentThread().getId();
        long start = THREADS.getThreadAllocatedBytes(id);
        long idle = THREADS.getThreadAllocatedBytes(id) - start;
        start = THREADS.getThreadAllocatedBytes(id);
        work(x);
        long made = THREADS.getThreadAllocatedBytes(id) - start - idle;
        CHECK.holds(made + " bytes made by calls are at most 500", made <= 500);
    }

    private static void work(NumeralBabel x) {
        Check.tens(x, 0, 0);
        x.base(0, 100, 11, 9, 1);
        x.joint(0, 0, 12);
        x.less(0, 1, 2, 13);
        x.form(0, 3, 1, 33);
        x.ordinal(0, 40);
        x.seam(0, 10, 12, 50);
        x.say(0, 142, 1);
        x.sayOrdinal(0, 142);
        x.sayFraction(0, 42, 43, 1);
        x.say(0, 142, 0);
        x.hearSaid();
        x.example(142);
        x.fits(0, 0, 999);
        x.hear(-1);
        x.fit(0, 0, 999, 2);
        x.askWord(0, 0, 999);
        x.gap(0, 999);
        x.clash(0, 0, 999);
        x.settings(0, 0, 12);
        x.askNumber(0, 1, 12, 99);
        x.learn(0, 0, 12);
        x.dropExamples();
        x.askNumber(0, 1, 12, 99);
        x.dropAtom(0, 4);
        x.numberOf(0, 5);
        x.cord(0, 7);
        x.count(-123456789);
        x.shown();
        x.forget();
        x.empty(0);
    }

    /** Objects and arrays that can be reached, and their fields and elements. */
    private static long[] room(Object root) throws Exception {
        Set<Object> seen = Collections.newSetFromMap(new IdentityHashMap<>());
        Deque<Object> open = new ArrayDeque<>();
        open.add(root);
        seen.add(root);
        long parts = 0;
        while (!open.isEmpty()) {
            Object object = open.remove();
            if (object.getClass().isArray()) {
                parts += Array.getLength(object);
                for (int i = 0; i < Array.getLength(object) && object instanceof Object[]; i++) {
                    reach(Array.get(object, i), seen, open);
                }
                continue;
            }
            for (Field field : object.getClass().getDeclaredFields()) {
                if (!Modifier.isStatic(field.getModifiers())) {
                    parts++;
                    field.setAccessible(true);
                    if (!field.getType().isPrimitive()) {
                        reach(field.get(object), seen, open);
                    }
                }
            }
        }
        return new long[] {seen.size(), parts};
    }

    private static void reach(Object object, Set<Object> seen, Deque<Object> open) {
        if (object != null && seen.add(object)) {
            open.add(object);
        }
    }
}
