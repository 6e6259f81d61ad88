import java.lang.management.ManagementFactory;
import java.lang.reflect.Array;
import java.lang.reflect.Field;
import java.lang.reflect.Modifier;
import java.util.Collections;
import java.util.IdentityHashMap;
import java.util.Set;

/** What README.md says of the room: all rows are made in the constructor, and calls make no objects but exceptions. */
public final class RoomTest {
    private interface Numbered {
        void make(int i);
    }

    private static final int MOST_OBJECTS = 400;
    private static final int MOST_ELEMENTS = 40_000;
    private static final int SMALLEST_OBJECT = 16;
    private static final int TIMES = 24;

    private static final com.sun.management.ThreadMXBean THREADS =
            (com.sun.management.ThreadMXBean) ManagementFactory.getThreadMXBean();

    private final Check check = new Check();
    private final SheetNeeds x = new SheetNeeds();
    private final boolean looked;
    private int elements;

    private RoomTest(boolean looked) {
        this.looked = looked;
    }

    public static void main(String[] args) {
        // The first use of code makes objects of the machine's own, so that the first round is not looked at.
        new RoomTest(false).calls();
        RoomTest test = new RoomTest(true);
        test.all();
        test.check.end();
    }

    private void all() {
        Set<Object> before = held();
        check.is("fewer than " + MOST_OBJECTS + " objects: " + before.size(), before.size() < MOST_OBJECTS, true);
        check.is("fewer than " + MOST_ELEMENTS + " elements: " + elements, elements < MOST_ELEMENTS, true);
        calls();
        Set<Object> after = held();
        check.is("objects behind all calls", after.size(), before.size());
        check.is("they are the same ones", before.containsAll(after), true);
    }

    /** Each kind of call, in all fewer than 512. */
    private void calls() {
        makesNothing("source", TIMES, i -> x.source(i));
        makesNothing("cell", TIMES, i -> x.cell(0, i, -1 - i));
        makesNothing("person", 4, i -> x.person());
        makesNothing("run", TIMES, i -> x.run());
        makesNothing("edit to no circle", TIMES, i -> x.edit(i, 0, -1, -1 - i));
        makesNothing("run that works", 1, i -> x.run());
        makesNothing("at", TIMES, i -> x.at(i));
        makesNothing("state", TIMES, i -> x.state(i));
        makesNothing("worked", TIMES, i -> x.worked(i));
        makesNothing("formula", TIMES, i -> x.formula(i, i % 3));
        makesNothing("change", TIMES, i -> x.change(i, i + 1));
        makesNothing("fail", TIMES, i -> x.fail(i, true));
        makesNothing("write", TIMES, i -> x.write(i % 4, i, 1, (i + 1) % TIMES, -1));
        makesNothing("edits", 4, i -> x.edits(i));
        makesNothing("join", 4, i -> x.join(i));
        makesNothing("edit to circles", TIMES, i -> x.edit(i, 0, (i + 1) % TIMES, -1 - i));
        makesNothing("circle", TIMES, i -> x.circle());
        makesNothing("circleAt", TIMES, i -> x.circleAt(i));
        makesNothing("uses", TIMES, i -> x.uses(i, i));
        makesNothing("undo", TIMES, i -> x.undo());
        makesNothing("count", TIMES, i -> x.count(i));
        check.isNoIndex("state(" + TIMES + ")", () -> x.state(TIMES));
    }

    private void makesNothing(String name, int times, Numbered call) {
        long before = bytesMade();
        for (int i = 0; i < times; i++) {
            call.make(i);
        }
        long made = bytesMade() - before;
        if (looked) {
            check.is(name + " makes no objects: " + made + " bytes in " + times + " calls",
                    made < times * SMALLEST_OBJECT, true);
        }
    }

    private static long bytesMade() {
        return THREADS.getThreadAllocatedBytes(Thread.currentThread().getId());
    }

    /** All objects and arrays that the sheet holds; their fields and elements are counted along with it. */
    private Set<Object> held() {
        Set<Object> all = Collections.newSetFromMap(new IdentityHashMap<>());
        elements = 0;
        hold(x, all);
        return all;
    }

    private void hold(Object object, Set<Object> all) {
        if (object == null || !all.add(object)) {
            return;
        }
        if (object.getClass().isArray()) {
            holdElements(object, all);
            return;
        }
        for (Field field : object.getClass().getDeclaredFields()) {
            if (!Modifier.isStatic(field.getModifiers())) {
                elements++;
                if (!field.getType().isPrimitive()) {
                    hold(valueOf(field, object), all);
                }
            }
        }
    }

    private void holdElements(Object array, Set<Object> all) {
        elements += Array.getLength(array);
        if (!array.getClass().getComponentType().isPrimitive()) {
            for (int i = 0; i < Array.getLength(array); i++) {
                hold(Array.get(array, i), all);
            }
        }
    }

    private static Object valueOf(Field field, Object object) {
        try {
            field.setAccessible(true);
            return field.get(object);
        } catch (IllegalAccessException e) {
            throw new IllegalStateException(field + " can not be looked at", e);
        }
    }
}
