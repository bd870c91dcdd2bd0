import java.lang.management.ManagementFactory;

/** All calls of one run live in one room: the rows are made by the constructor, and no call makes more. */
public final class RoomTest {
    private static final Check CHECK = new Check("RoomTest");
    private static final com.sun.management.ThreadMXBean ROOM = (com.sun.management.ThreadMXBean) ManagementFactory.getThreadMXBean();

    public static void main(String[] args) {
        // once ahead, so that what classes need when they are loaded does not count
        run(new LineDiagram());
        long before = taken();
        LineDiagram x = new LineDiagram();
        long made = taken() - before;
        before = taken();
        run(x);
        long more = taken() - before;
        System.out.println("RoomTest: an object takes " + made + " bytes, 500 calls take " + more + " more");
        CHECK.due("an object takes less than 150000 bytes", made < 150000 ? 1 : 0, 1);
        CHECK.due("the calls take less than 10000 bytes", more < 10000 ? 1 : 0, 1);
        CHECK.end();
    }

    private static long taken() {
        return ROOM.getThreadAllocatedBytes(Thread.currentThread().getId());
    }

    private static void run(LineDiagram x) {
        byte[] text = ("board 40 40 turn 3;line a size 1 stops 9 at 0 0 at 9 9 at 20 9;line b size 2 stops 20 at 9 0 at 9 39;"
            + "line c size 3 stops 5 at 0 9 at 30 9;        ").getBytes();
        for (int round = 0; round < 5; round++) {
            for (int i = 0; i + 20 <= text.length; i += 20) {
                x.append(Check.four(text, i), Check.four(text, i + 4), Check.four(text, i + 8), Check.four(text, i + 12), Check.four(text, i + 16));
            }
            x.load();
            for (int i = 0; i < 15; i++) {
                x.labelAll();
                x.moveBend(0, 2, 20 + i % 2, 9);
                x.bestMove(0, 2);
                x.ifMoved(0, 2, 21, 9, i % 4);
                x.couldLabel();
                x.keep(i % 2);
                x.restore(i % 2);
                x.undo();
                x.rides(0, 0, 2, 4);
                x.changes(0, 0, 2, 4);
                x.dodge(0, i % 9);
                x.setupByte(i);
                x.pictureByte(i);
                x.insert(2, 1, 5, 9);
                x.removePoint(2, 1);
                x.value(i % 12);
                x.line(0, i % 9);
                x.stuck();
                x.labelled();
                x.meanGap(0);
            }
        }
    }
}
