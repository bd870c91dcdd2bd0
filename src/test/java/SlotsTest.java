/** Promises 16 to 18: keeping, restoring and undoing (section 6). */
public final class SlotsTest {
    private static final Check CHECK = new Check("SlotsTest");
    private static final String TEXT = "board 12 8 turn 2;line a size 2 stops 3 at 1 1 at 5 1 at 8 4;"
        + "line b size 1 stops 2 at 0 6 at 9 6;";

    public static void main(String[] args) {
        wrongArguments();
        firstSlot();
        secondSlot();
        slotsStay();
        eightAtMost();
        everyOperation();
        noOperations();
        CHECK.end();
    }

    private static void wrongArguments() {
        LineDiagram x = Check.of(TEXT);
        for (int slot : new int[] {-1, 2, Integer.MIN_VALUE, Integer.MAX_VALUE}) {
            CHECK.due("keep(" + slot + ")", x.keep(slot), -1);
            CHECK.due("restore(" + slot + ")", x.restore(slot), -1);
        }
        CHECK.due("restore(0)", x.restore(0), -2);
        CHECK.due("keep(1)", x.keep(1), 0);
        CHECK.due("restore(0) with the other slot full", x.restore(0), -2);
        CHECK.due("undo()", x.undo(), -1);
    }

    /** Two labels kept in slot 0, and what some operations make of it in slot 1. */
    private static LineDiagram twoSlots() {
        LineDiagram x = Check.of(TEXT);
        x.label(0, 0, 2);
        x.label(1, 0, 7);
        CHECK.due("keep(0)", x.keep(0), 2);
        x.moveBend(0, 2, 9, 5);
        x.reverse(0);
        x.setSize(1, 9);
        x.setStops(1, 5);
        x.insert(1, 1, 4, 6);
        x.labelAll();
        CHECK.due("keep(1)", x.keep(1), x.value(6));
        return x;
    }

    private static void firstSlot() {
        LineDiagram x = Check.of(TEXT);
        x.label(0, 0, 2);
        x.label(1, 0, 7);
        String kept = Check.picture(x);
        x = twoSlots();
        CHECK.due("restore(0)", x.restore(0), 2);
        CHECK.due("picture", Check.picture(x), kept);
        CHECK.due("setup", Check.setup(x), TEXT);
        CHECK.due("position(0, 0)", x.position(0, 0), 2);
        CHECK.due("position(1, 0)", x.position(1, 0), 7);
        x.unlabel(0, 0);
        x.keep(0);
        x.restore(1);
        CHECK.due("restore(0): in place of what it had", x.restore(0), x.value(6));
        CHECK.due("position(0, 0)", x.position(0, 0), -2);
    }

    private static void secondSlot() {
        LineDiagram x = twoSlots();
        String later = Check.picture(x);
        x.restore(0);
        x.unlabel(1, 0);
        CHECK.due("restore(1)", x.restore(1), x.value(6));
        CHECK.due("picture", Check.picture(x), later);
        CHECK.due("setup", Check.setup(x), "board 12 8 turn 2;line a size 2 stops 3 at 9 5 at 5 1 at 1 1;"
            + "line b size 9 stops 5 at 0 6 at 4 6 at 9 6;");
        CHECK.due("restore(0): the slot keeps it", x.restore(0), 2);
        CHECK.due("undo of a restore", x.undo(), 7);
        CHECK.due("picture", Check.picture(x), later);
    }

    private static void slotsStay() {
        LineDiagram x = Check.of(TEXT);
        x.labelAll();
        int labels = x.value(6);
        x.keep(0);
        Check.write(x, "boar");
        CHECK.due("undo leaves the slots", x.undo(), 0);
        CHECK.due("undo leaves the tape", x.tapeLength(), 4);
        CHECK.due("restore(0)", x.restore(0), labels);
        CHECK.due("keep is not undone", x.undo(), 0);
        x.load();
        CHECK.due("errorPosition", x.errorPosition(), 0);
        x.reverse(1);
        CHECK.due("undo leaves the error position", x.undo(), 0);
        CHECK.due("errorPosition", x.errorPosition(), 0);
        CHECK.due("restore(0)", x.restore(0), labels);
    }

    private static void eightAtMost() {
        LineDiagram x = Check.of(TEXT);
        for (int size = 2; size <= 10; size++) {
            x.setSize(1, size);
        }
        for (int left = 7; left >= 0; left--) {
            CHECK.due("undo()", x.undo(), left);
            CHECK.due("line(1, 2)", x.line(1, 2), 2 + left);
        }
        CHECK.due("undo() of a ninth", x.undo(), -1);
        CHECK.due("line(1, 2)", x.line(1, 2), 2);
        x.setSize(1, 3);
        x.setSize(1, 4);
        CHECK.due("undo()", x.undo(), 1);
        x.setSize(1, 5);
        CHECK.due("undo()", x.undo(), 1);
        CHECK.due("line(1, 2)", x.line(1, 2), 3);
        CHECK.due("undo()", x.undo(), 0);
        CHECK.due("undo()", x.undo(), -1);
    }

    /** Each operation can be undone, and leaves behind what was there. */
    private static void everyOperation() {
        for (int i = 0; i < 11; i++) {
            LineDiagram x = Check.of(TEXT);
            x.label(1, 0, 7);
            x.label(0, 2, 7);
            x.keep(0);
            x.label(0, 1, 6);
            String picture = Check.picture(x);
            int answer;
            switch (i) {
                case 0: answer = x.moveBend(0, 2, 9, 5); break;
                case 1: answer = x.insert(0, 1, 3, 1); break;
                case 2: answer = x.removePoint(0, 2); break;
                case 3: answer = x.reverse(0); break;
                case 4: answer = x.setStops(0, 7); break;
                case 5: answer = x.setSize(0, 1); break;
                case 6: answer = x.label(1, 0, 6); break;
                case 7: answer = x.unlabel(1, 0); break;
                case 8: answer = x.dodge(0, 0); break;
                case 9: answer = x.labelAll(); break;
                default: answer = x.restore(0);
            }
            CHECK.due("operation " + i + " is done", answer >= 0 ? 1 : 0, 1);
            CHECK.due("undo of operation " + i, x.undo(), 3);
            CHECK.due("picture behind operation " + i, Check.picture(x), picture);
            CHECK.due("setup behind operation " + i, Check.setup(x), TEXT);
            CHECK.due("labels behind operation " + i, x.value(6), 3);
        }
    }

    private static void noOperations() {
        LineDiagram x = Check.of(TEXT);
        x.keep(0);
        x.value(9);
        x.ifMoved(0, 2, 9, 5, 1);
        x.bestMove(0, 2);
        x.couldLabel();
        x.moveBend(0, 2, 9, 4);
        x.setSize(0, 2);
        x.unlabel(0, 0);
        x.label(0, 0, 0);
        x.reverse(2);
        CHECK.due("undo() without an operation", x.undo(), -1);
        x.labelAll();
        x.labelAll();
        CHECK.due("labelAll that brings none is an operation too", x.undo(), 1);
        x = new LineDiagram();
        x.labelAll();
        CHECK.due("undo() of a new object's labelAll()", x.undo(), 0);
        CHECK.due("undo()", x.undo(), -1);
        x.keep(1);
        CHECK.due("restore(1) of nothing", x.restore(1), 0);
        CHECK.due("undo()", x.undo(), 0);
    }
}
