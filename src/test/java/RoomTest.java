import com.sun.management.ThreadMXBean;
import java.lang.management.ManagementFactory;
import java.lang.reflect.Array;
import java.lang.reflect.Field;
import java.lang.reflect.Modifier;
import java.util.ArrayDeque;
import java.util.Collections;
import java.util.Deque;
import java.util.IdentityHashMap;
import java.util.Set;

/** That an object and all its calls have room in the one room of a run, whichever of the calls it is. */
public final class RoomTest {
    private static final int NONE = VersionSearch.NONE;
    private static final long OBJECTS = 600_000;
    private static final long ELEMENTS = 7_300_000;
    /** An element of an int's row; of most other fields it is more. */
    private static final int BYTES = 4;
    private static final int CALLS = 450;
    private static final int KINDS = 24;

    private static final String ARCHIVE = "doc" + " a b".repeat(10) + ";doc b c" + " d".repeat(18) + ";move1 0 9;"
            + "back0 0;".repeat(9) + "doc a;doc b;" + "put2 0 c;put3 1 d;".repeat(5);
    private static final String QUESTIONS = "phrase a b a b;near a c 9;many a 9;not 0;ever 1;new 2;and 3 4;or 5 6;";
    private static final String HUNT = "in 0 0;in 0 1;out 2 0;out 3 0;out 2 9;out 3 9;in 0 2;in 0 3;";

    private RoomTest() {
    }

    public static void main(String[] args) throws IllegalAccessException {
        Due.sentence("All calls of one run live in ONE room: count your dearest call's objects and elements times all calls");
        for (int kind = 0; kind < KINDS; kind++) {
            made(kind);
        }
        kept();
        Due.finish("RoomTest");
    }

    /** What a new object, three texts and so many calls of one kind make, be it kept or not. */
    private static void made(int kind) {
        ThreadMXBean meter = (ThreadMXBean) ManagementFactory.getThreadMXBean();
        long thread = Thread.currentThread().getId();
        long before = meter.getThreadAllocatedBytes(thread);
        VersionSearch x = Due.with(ARCHIVE, QUESTIONS, HUNT);
        for (int i = 0; i < CALLS / 3; i++) {
            // A text has two calls more, which put it on the tape.
            if (kind == 2) {
                Due.tape(x, "doc a;");
            } else {
                call(x, kind, i);
                call(x, kind, i + 1);
            }
            call(x, kind, i + 2);
        }
        long bytes = meter.getThreadAllocatedBytes(thread) - before;
        Due.is("calls of kind " + kind + " made " + bytes + " bytes", bytes < ELEMENTS * BYTES, true);
    }

    private static void call(VersionSearch x, int kind, int i) {
        switch (kind) {
            case 0 -> x.feed(i, i, i, i, i);
            case 1 -> x.end(i);
            case 2 -> x.text(0, 0);
            case 3 -> x.fault(i);
            case 4 -> x.archive(0, i % 60);
            case 5 -> x.version(0, i % 4, i % 10, i % 30);
            case 6 -> x.life(0, i % 4, i % 10, i % 20, i % 4);
            case 7 -> x.word(0, i % 4, i % 5);
            case 8 -> x.dated(0, i);
            case 9 -> x.shared(0, i % 4, i % 7, i % 6);
            case 10 -> x.common(0, i % 4, i % 7, i % 3, i % 6);
            case 11 -> x.question(0, i % 8, i % 14);
            case 12 -> x.holds(0, 0, i % 8, i % 3, i % 10);
            case 13 -> x.spans(0, 0, i % 8, i % 3, i % 4 - 1, i % 2 == 0);
            case 14 -> x.times(0, 0, 0, i % 3, i % 10);
            case 15 -> x.found(0, 0, i % 8, i);
            case 16 -> x.best(0, 0, i % 2);
            case 17 -> x.implies(0, 0, i % 8, i % 7);
            case 18 -> x.fact(0, i % 8, i % 3);
            case 19 -> x.fits(0, 0, i % 12);
            case 20 -> x.drawn(0, i, 40, i % 3, i % 30);
            case 21 -> x.count(i % 3);
            case 22 -> x.image(i % 3);
            default -> {
                if (i == 0) {
                    x.image(0);
                }
                x.again(0);
            }
        }
    }

    private static void kept() throws IllegalAccessException {
        VersionSearch x = Due.with(ARCHIVE, QUESTIONS, HUNT);
        for (int i = 0; i < CALLS / 20; i++) {
            for (int kind = 0; kind < 20; kind++) {
                call(x, i < 3 ? 22 : kind, i);
            }
        }
        long[] counts = count(x);
        Due.is("objects and arrays that are kept: " + counts[0], counts[0] < OBJECTS, true);
        Due.is("fields and elements that are kept: " + counts[1], counts[1] < ELEMENTS, true);
    }

    /** Objects and arrays, fields and elements, that can be come at from an object. */
    private static long[] count(Object from) throws IllegalAccessException {
        long[] counts = new long[2];
        Set<Object> met = Collections.newSetFromMap(new IdentityHashMap<>());
        Deque<Object> open = new ArrayDeque<>();
        meet(from, met, open);
        while (!open.isEmpty()) {
            Object one = open.remove();
            counts[0]++;
            if (one.getClass().isArray()) {
                counts[1] += Array.getLength(one);
                for (int i = 0; i < Array.getLength(one) && !one.getClass().getComponentType().isPrimitive(); i++) {
                    meet(Array.get(one, i), met, open);
                }
                continue;
            }
            for (Field field : one.getClass().getDeclaredFields()) {
                if (!Modifier.isStatic(field.getModifiers())) {
                    counts[1]++;
                    if (!field.getType().isPrimitive()) {
                        field.setAccessible(true);
                        meet(field.get(one), met, open);
                    }
                }
            }
        }
        return counts;
    }

    private static void meet(Object one, Set<Object> met, Deque<Object> open) {
        boolean own = one != null && (one.getClass().isArray() || one.getClass().getName().startsWith("VersionSearch"));
        if (own && met.add(one)) {
            open.add(one);
        }
    }
}
