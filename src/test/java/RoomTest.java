import java.lang.management.ManagementFactory;
import java.lang.reflect.Array;
import java.lang.reflect.Field;
import java.lang.reflect.Modifier;
import java.util.IdentityHashMap;
import java.util.Map;

/** All calls of one run live in one room: the rows are made by the constructor, and no call makes more. */
public final class RoomTest {
    private static final Check CHECK = new Check("RoomTest");
    private static final com.sun.management.ThreadMXBean ROOM = (com.sun.management.ThreadMXBean) ManagementFactory.getThreadMXBean();
    private static final String TEXT = "board 40 40 turn 3;line a size 1 stops 9 at 0 0 at 9 9 at 20 9;line b size 2 stops 20 at 9 0 at 9 39;"
        + "line c size 3 stops 5 at 0 9 at 30 9;";

    private static int objects;
    private static int elements;

    public static void main(String[] args) throws IllegalAccessException {
        // once ahead, so that what classes need when they are loaded does not count
        calls(onTape());
        LineDiagram x = onTape();
        long before = taken();
        int labels = calls(x);
        long more = taken() - before;
        CHECK.due("labels behind the calls", labels, x.value(6));
        System.out.println("RoomTest: an object is " + room(x) + "; its calls take " + more + " bytes more");
        CHECK.due("objects and arrays up to 500", objects <= 500 ? 1 : 0, 1);
        CHECK.due("fields and elements up to 20000", elements <= 20000 ? 1 : 0, 1);
        // an object of a call would take 16 bytes at least, so that even a call that is made ten times is told
        CHECK.due("bytes that calls take", more < 100 ? 1 : 0, 1);
        CHECK.end();
    }

    /** What an object takes, in words. */
    static String room(LineDiagram x) throws IllegalAccessException {
        Map<Object, Boolean> seen = new IdentityHashMap<>();
        elements = 0;
        count(x, seen);
        objects = seen.size();
        return objects + " objects and arrays with " + elements + " fields and elements";
    }

    private static LineDiagram onTape() {
        LineDiagram x = new LineDiagram();
        Check.write(x, TEXT);
        return x;
    }

    private static long taken() {
        return ROOM.getThreadAllocatedBytes(Thread.currentThread().getId());
    }

    /** All methods; with those that put the text on the tape these are fewer than 512 calls. */
    private static int calls(LineDiagram x) {
        x.load();
        for (int i = 0; i < 10; i++) {
            x.append(i, i, i, i, i);
            x.truncate(20);
            x.labelAll();
            x.moveBend(0, 2, 20 + i % 2, 9);
            x.insert(2, 1, 5, 9);
            x.removePoint(2, 1);
            x.reverse(i % 3);
            x.reverse(i % 3);
            x.setStops(2, 6 + i % 2);
            x.setSize(1, 3 + i % 2);
            x.unlabel(0, i % 9);
            x.label(0, i % 9, i % 8);
            x.unlabel(1, i);
            x.dodge(1, i);
            x.keep(i % 2);
            x.restore(i % 2);
            x.undo();
            ask(x, i);
        }
        x.load();
        return x.errorPosition() == 0 ? x.value(6) : -1;
    }

    private static void ask(LineDiagram x, int i) {
        x.value(i % 12);
        x.line(0, i % 9);
        x.point(0, i % 3, true);
        x.turn(0, i % 3);
        x.station(0, i % 9, i % 6);
        x.at(i, i);
        x.linesAt(i, i);
        x.uneven(i % 3);
        x.crookedest();
        x.nearest(i, i);
        x.both(0, 1, i % 5);
        x.crossing(i % 3);
        x.rides(0, 0, 2, 4);
        x.changes(0, 0, 2, 4);
        x.position(0, i % 9);
        x.why(0, i % 9, i % 8);
        x.free(0, i % 9);
        x.labelAt(i, i);
        x.stuck();
        x.ifMoved(0, 2, 21, 9, i % 4);
        x.bestMove(0, 2);
        x.couldLabel();
        x.meanGap(0);
        x.labelled();
        x.named(1 << 25);
        x.pictureLength();
        x.pictureByte(i);
        x.setupLength();
        x.setupByte(i);
        x.tapeLength();
        x.errorPosition();
    }

    /** Counts an object of the program with all that it holds. */
    private static void count(Object it, Map<Object, Boolean> seen) throws IllegalAccessException {
        if (it == null || seen.put(it, true) != null) {
            return;
        }
        if (it.getClass().isArray()) {
            elements += Array.getLength(it);
            for (int i = 0; i < Array.getLength(it) && !it.getClass().getComponentType().isPrimitive(); i++) {
                count(Array.get(it, i), seen);
            }
            return;
        }
        for (Field field : it.getClass().getDeclaredFields()) {
            if (!Modifier.isStatic(field.getModifiers())) {
                elements++;
                field.setAccessible(true);
                if (!field.getType().isPrimitive()) {
                    count(field.get(it), seen);
                }
            }
        }
    }
}
