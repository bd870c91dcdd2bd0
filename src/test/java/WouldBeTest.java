/** Promises 38 to 40: what would come of a move, and of labelling all. */
public final class WouldBeTest {
    private static final Check CHECK = new Check("WouldBeTest");

    public static void main(String[] args) {
        refusals();
        numbers();
        nothingChanges();
        nothingComesBack();
        bestOfOneLine();
        bestByLabels();
        bestByCrossings();
        couldLabel();
        CHECK.end();
    }

    private static void refusals() {
        LineDiagram x = Check.of("board 12 8 turn 2;line a size 2 stops 8 at 1 1 at 5 1 at 8 4;");
        for (int what = 0; what < 4; what++) {
            CHECK.due("ifMoved(-1)", x.ifMoved(-1, 0, 0, 0, what), -1);
            CHECK.due("ifMoved(1)", x.ifMoved(1, 0, 0, 0, what), -1);
            CHECK.due("ifMoved of point -1", x.ifMoved(0, -1, 0, 0, what), -1);
            CHECK.due("ifMoved of point 3", x.ifMoved(0, 3, 0, 0, what), -1);
            CHECK.due("ifMoved to column -1", x.ifMoved(0, 0, -1, 1, what), -1);
            CHECK.due("ifMoved to column 12", x.ifMoved(0, 0, 12, 1, what), -1);
            CHECK.due("ifMoved to row -1", x.ifMoved(0, 0, 1, -1, what), -1);
            CHECK.due("ifMoved to row 8", x.ifMoved(0, 0, 1, 8, what), -1);
            CHECK.due("ifMoved to where it is", x.ifMoved(0, 2, 8, 4, what), -2);
            CHECK.due("ifMoved off the eighths", x.ifMoved(0, 2, 9, 4, what), -3);
            CHECK.due("ifMoved too short", x.ifMoved(0, 2, 7, 3, what), -4);
        }
        for (int what : new int[] {-1, 4, Integer.MIN_VALUE, Integer.MAX_VALUE}) {
            CHECK.due("ifMoved(.., " + what + ")", x.ifMoved(0, 2, 9, 5, what), -1);
            CHECK.due("ifMoved to where it is, (.., " + what + ")", x.ifMoved(0, 2, 8, 4, what), -1);
        }
        for (int[] w : new int[][] {{-1, 0}, {1, 0}, {0, -1}, {0, 3}}) {
            CHECK.due("bestMove", x.bestMove(w[0], w[1]), -1);
        }
        CHECK.due("bestMove of a new object", new LineDiagram().bestMove(0, 0), -1);
    }

    private static final String CROSSES = "board 12 8 turn 2;line a size 1 stops 2 at 0 0 at 3 3;"
        + "line b size 1 stops 2 at 0 5 at 5 0;line c size 1 stops 2 at 0 1 at 9 1;";

    private static void numbers() {
        LineDiagram x = Check.of(CROSSES);
        CHECK.due("value(9)", x.value(9), 2);
        CHECK.due("value(10)", x.value(10), 1);
        CHECK.due("crossings between cells if shorter", x.ifMoved(0, 1, 2, 2, 2), 0);
        CHECK.due("crossings between cells if longer", x.ifMoved(0, 1, 5, 5, 2), 1);
        CHECK.due("crossings at cells if shorter", x.ifMoved(2, 1, 3, 1, 1), 1);
        CHECK.due("crossings at cells if the last one is a place", x.ifMoved(2, 1, 1, 1, 1), 0);
        CHECK.due("length", x.ifMoved(0, 1, 5, 5, 3), 5);
        CHECK.due("length of a slanting line", x.ifMoved(2, 1, 6, 7, 3), 6);
        CHECK.due("labels that would be lost", x.ifMoved(0, 1, 2, 2, 0), 0);
        x.label(0, 1, 0);
        x.label(1, 1, 0);
        CHECK.due("labels that would be lost with their place", x.ifMoved(0, 1, 2, 2, 0), 1);
        CHECK.due("labels that would be lost by another line", x.ifMoved(2, 0, 9, 0, 0), 0);
        CHECK.due("label", x.label(2, 0, 7), 1);
        CHECK.due("labels that would be lost with their place and under a line", x.ifMoved(0, 1, 0, 4, 0), 2);
    }

    private static void nothingChanges() {
        LineDiagram x = Check.of(CROSSES);
        x.labelAll();
        x.reverse(1);
        String picture = Check.picture(x), setup = Check.setup(x);
        int labels = x.value(6), could = x.couldLabel();
        for (int what = 0; what < 4; what++) {
            x.ifMoved(0, 1, 5, 5, what);
            x.ifMoved(2, 1, 3, 1, what);
            x.bestMove(1, what % 2);
        }
        CHECK.due("picture", Check.picture(x), picture);
        CHECK.due("setup", Check.setup(x), setup);
        CHECK.due("labels", x.value(6), labels);
        CHECK.due("couldLabel", x.couldLabel(), could);
        CHECK.due("undo", x.undo(), 1);
    }

    /** What was kept of another call must not come back: this object is asked for nothing else. */
    private static void nothingComesBack() {
        LineDiagram x = Check.of(CROSSES);
        x.label(0, 0, 0);
        x.label(2, 1, 0);
        String picture = Check.picture(x), setup = Check.setup(x);
        int best = x.bestMove(2, 1);
        CHECK.due("picture behind bestMove", Check.picture(x), picture);
        CHECK.due("setup behind bestMove", Check.setup(x), setup);
        CHECK.due("bestMove again", x.bestMove(2, 1), best);
        CHECK.due("undo", x.undo(), 1);
    }

    private static void bestOfOneLine() {
        String head = "board 12 8 turn 2;";
        CHECK.due("bestMove of the first way", Check.of(head + "line a size 1 stops 2 at 5 3 at 8 3;").bestMove(0, 0), 0);
        CHECK.due("bestMove that is not short", Check.of(head + "line a size 1 stops 4 at 5 3 at 8 3;").bestMove(0, 0), 4);
        CHECK.due("bestMove without any", Check.of(head + "line a size 1 stops 4 at 0 3 at 3 3;").bestMove(0, 0), -2);
        CHECK.due("bestMove that is straight", Check.of(head + "line a size 1 stops 2 at 5 3 at 6 4;").bestMove(0, 0), 0);
        CHECK.due("bestMove in a corner", Check.of(head + "line a size 1 stops 3 at 0 0 at 2 2;").bestMove(0, 0), -2);
        CHECK.due("bestMove of a bend", Check.of(head + "line a size 1 stops 2 at 1 1 at 4 1 at 6 3;").bestMove(0, 1), -2);
    }

    private static void bestByLabels() {
        LineDiagram x = Check.of("board 12 8 turn 2;line a size 1 stops 2 at 2 2 at 5 2;line b size 1 stops 2 at 7 2 at 7 5;");
        CHECK.due("bestMove without labels", x.bestMove(0, 1), 0);
        CHECK.due("label", x.label(1, 0, 1), 1);
        CHECK.due("bestMove beside a label", x.bestMove(0, 1), 4);
        CHECK.due("label of the place itself", x.label(0, 1, 7), 2);
        CHECK.due("bestMove: two, or one label lost", x.bestMove(0, 1), 4);
        x.unlabel(1, 0);
        CHECK.due("bestMove: one label lost either way", x.bestMove(0, 1), 0);
    }

    private static void bestByCrossings() {
        // by way 0 the line comes over the upright one, by way 4 it stays on this side
        LineDiagram x = Check.of("board 12 8 turn 2;line a size 1 stops 2 at 1 3 at 6 3;line b size 1 stops 2 at 6 0 at 6 6;");
        CHECK.due("crossings to the right", x.ifMoved(0, 1, 7, 3, 1), 1);
        CHECK.due("crossings to the left", x.ifMoved(0, 1, 5, 3, 1), 0);
        CHECK.due("bestMove", x.bestMove(0, 1), 4);
        // the same between cells
        x = Check.of("board 12 8 turn 2;line a size 1 stops 2 at 0 0 at 2 2;line b size 1 stops 2 at 0 5 at 5 0;");
        CHECK.due("crossings right and down", x.ifMoved(0, 1, 3, 3, 2), 1);
        CHECK.due("bestMove", x.bestMove(0, 1), 5);
        // all crossings of the diagram count alike: the far ones change nothing
        x = Check.of("board 12 8 turn 2;line a size 1 stops 2 at 1 3 at 6 3;line b size 1 stops 2 at 6 0 at 6 6;"
            + "line c size 1 stops 2 at 8 1 at 11 4;line d size 1 stops 2 at 11 1 at 8 4;");
        CHECK.due("bestMove beside other crossings", x.bestMove(0, 1), 4);
    }

    private static void couldLabel() {
        CHECK.due("couldLabel of a new object", new LineDiagram().couldLabel(), 0);
        LineDiagram x = Check.of(CROSSES);
        int could = x.couldLabel();
        CHECK.due("labels", x.value(6), 0);
        CHECK.due("labelAll", x.labelAll(), could);
        CHECK.due("couldLabel behind it", x.couldLabel(), 0);
        x.undo();
        x.label(2, 1, 0);
        CHECK.due("couldLabel beside a label", x.couldLabel(), could - 1);
        CHECK.due("undo", x.undo(), 0);
    }
}
