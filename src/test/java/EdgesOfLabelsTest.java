/** The sentences of promises 33 to 40 that name an edge: a test for each. */
public final class EdgesOfLabelsTest {
    private static final Check CHECK = new Check("EdgesOfLabelsTest");
    private static final String HEAD = "board 12 8 turn 2;";
    /** Seven steps, with stations at (1, 1), (4, 1) and (8, 4) of LONG 2, 3 and 4. */
    private static final String BENT = HEAD + "line a size 2 stops 3 at 1 1 at 5 1 at 8 4;";
    /** (5, 3) of a and b, with room on all sides but to the right and below. */
    private static final String CORNER = HEAD + "line a size 2 stops 2 at 5 3 at 9 3;line b size 1 stops 2 at 5 3 at 5 6;";
    /** a crosses c at (1, 1), b crosses c at (4, 1), a and b cross between cells from (2, 2) to (3, 3). */
    private static final String CROSSES = HEAD + "line a size 1 stops 2 at 0 0 at 3 3;line b size 1 stops 2 at 0 5 at 5 0;line c size 1 stops 2 at 0 1 at 9 1;";
    private static final int LEAST = Integer.MIN_VALUE;
    private static final int MOST = Integer.MAX_VALUE;
    private static final int[][] NO_STATIONS = {{-1, 0}, {1, 0}, {0, -1}, {0, 3}, {0, 20}, {LEAST, 0}, {MOST, 0}, {0, LEAST}, {0, MOST}};

    public static void main(String[] args) throws Exception {
        CHECK.eachSentence(EdgesOfLabelsTest.class);
        CHECK.end();
    }

    private static void due(String call, double got, double want) {
        CHECK.due(call, got, want);
    }

    // ---- promise 33

    @Says(in = "Promise 33", words = "Returns that of the label of its place")
    private static void positionsOfPlaces() {
        LineDiagram x = Check.of(CORNER);
        for (int position : new int[] {1, 2, 4, 6}) {
            x.label(1, 0, position);
            due("position by the line that labelled it", x.position(1, 0), position);
            due("position by the other line", x.position(0, 0), position);
        }
        x = Check.of(HEAD + "line a size 2 stops 2 at 5 3 at 1 3;line b size 2 stops 2 at 0 0 at 9 0;");
        x.label(0, 0, 0);
        due("POSITION 0", x.position(0, 0), 0);
        x.label(1, 0, 3);
        due("POSITION of the first cell's place", x.position(1, 0), 3);
        x.label(1, 1, 7);
        due("POSITION 7", x.position(1, 1), 7);
    }

    @Says(in = "Promise 33", words = "INVALID for an invalid argument")
    private static void invalidPosition() {
        LineDiagram x = Check.of(BENT);
        for (int[] w : NO_STATIONS) {
            due("position", x.position(w[0], w[1]), -1);
        }
        due("position without lines", new LineDiagram().position(0, 0), -1);
    }

    @Says(in = "Promise 33", words = "NOT_FOUND without a label")
    private static void noPosition() {
        LineDiagram x = Check.of(BENT);
        due("position without labels", x.position(0, 0), -2);
        x.label(0, 1, 7);
        due("position of the place ahead", x.position(0, 0), -2);
        due("position of the place behind", x.position(0, 2), -2);
        x.unlabel(0, 1);
        due("position behind unlabel", x.position(0, 1), -2);
    }

    // ---- promise 34

    @Says(in = "Promise 34", words = "Returns the first reason (OFF, ON_LINE, ON_LABEL; the own label of its place does not count), 0 if it fits")
    private static void reasons() {
        LineDiagram x = Check.of(HEAD + "line a size 3 stops 2 at 3 3 at 9 3;line b size 1 stops 2 at 6 2 at 6 0;line c size 1 stops 2 at 4 1 at 4 0;");
        due("label of c at (4, 2)", x.label(2, 0, 7), 1);
        due("off the board and on a line", x.why(0, 1, 0), -5);
        due("on a line", x.why(0, 1, 1), -6);
        due("on a label and a line", x.why(0, 0, 2), -6);
        due("on a label", x.why(0, 0, 6), -7);
        due("that fits", x.why(0, 0, 3), 0);
        due("where its own label lies", x.why(2, 0, 7), 0);
        // columns 4 to 6 are upon its own label in columns 6 to 8
        x = Check.of(HEAD + "line a size 3 stops 2 at 5 3 at 5 6;");
        x.label(0, 0, 2);
        due("upon its own label", x.why(0, 0, 6), 0);
        due("where it lies", x.why(0, 0, 2), 0);
        due("labels", x.value(6), 1);
        // a label of one column beside the edge, and one over it
        x = Check.of("board 4 4 turn 2;line a size 1 stops 2 at 1 1 at 1 3;line b size 2 stops 2 at 2 1 at 2 3;");
        due("in column 0", x.why(0, 0, 4), 0);
        due("in columns 3 and 4", x.why(1, 0, 2), -5);
    }

    @Says(in = "Promise 34", words = "INVALID for an invalid argument")
    private static void invalidWhy() {
        LineDiagram x = Check.of(BENT);
        for (int[] w : NO_STATIONS) {
            due("why", x.why(w[0], w[1], 2), -1);
        }
        for (int position : new int[] {-1, 8, LEAST, MOST}) {
            due("why(0, 0, " + position + ")", x.why(0, 0, position), -1);
        }
        due("why without lines", new LineDiagram().why(0, 0, 0), -1);
    }

    // ---- promise 35

    @Says(in = "Promise 35", words = "the own label of its place does not count")
    private static void freeOfItsOwnLabel() {
        LineDiagram x = Check.of(CORNER);
        int all = 1 << 1 | 1 << 2 | 1 << 3 | 1 << 4 | 1 << 5 | 1 << 6;
        due("LONG of (5, 3)", x.station(0, 0, 4), 2);
        due("free(0, 0)", x.free(0, 0), all);
        for (int position : new int[] {1, 2, 3, 4, 5, 6}) {
            x.label(0, 0, position);
            due("free(0, 0) with a label in " + position, x.free(0, 0), all);
            due("free(1, 0) with a label in " + position, x.free(1, 0), all);
        }
    }

    @Says(in = "Promise 35", words = "as a bit mask")
    private static void freeMasks() {
        due("all but POSITION 0", Check.of(HEAD + "line a size 2 stops 2 at 5 3 at 9 3;").free(0, 0), 254);
        due("all but POSITION 1", Check.of(HEAD + "line a size 2 stops 2 at 5 3 at 1 3;").free(0, 0), 253);
        due("all but POSITION 7", Check.of(HEAD + "line a size 1 stops 2 at 5 3 at 5 6;").free(0, 0), 127);
        due("all but POSITION 6", Check.of(HEAD + "line a size 1 stops 2 at 5 6 at 5 3;").free(0, 0), 191);
        due("none", Check.of("board 4 4 turn 2;line a size 10 stops 2 at 0 0 at 3 0;").free(0, 0), 0);
        LineDiagram x = Check.of(HEAD + "line a size 2 stops 2 at 5 3 at 9 3;");
        due("of LONG 3 at (9, 3) of twelve columns", x.free(0, 1), 1 << 4 | 1 << 5 | 1 << 6 | 1 << 7);
        x.label(0, 0, 3);
        due("beside a label in columns 6 and 7 below", x.free(0, 1), 1 << 4 | 1 << 6 | 1 << 7);
    }

    @Says(in = "Promise 35", words = "INVALID for an invalid argument")
    private static void invalidFree() {
        LineDiagram x = Check.of(BENT);
        for (int[] w : NO_STATIONS) {
            due("free", x.free(w[0], w[1]), -1);
        }
        due("free without lines", new LineDiagram().free(0, 0), -1);
    }

    // ---- promise 36

    @Says(in = "Promise 36", words = "Returns 64 times the row plus the column of the place whose label lies there")
    private static void placesOfLabels() {
        LineDiagram x = Check.of("board 40 40 turn 2;line a size 2 stops 2 at 0 0 at 39 39;");
        x.label(0, 0, 0);
        due("of the place of the first cell", x.labelAt(1, 0), 0);
        due("its other cell", x.labelAt(2, 0), 0);
        due("the cell behind it", x.labelAt(3, 0), -2);
        x.label(0, 1, 1);
        due("of the place of the last cell", x.labelAt(38, 39), 64 * 39 + 39);
        due("its first cell", x.labelAt(36, 39), 64 * 39 + 39);
        due("the cell ahead of it", x.labelAt(35, 39), -2);
        due("the place itself", x.labelAt(0, 0), -2);
    }

    @Says(in = "Promise 36", words = "INVALID for an invalid argument")
    private static void invalidLabelAt() {
        LineDiagram x = Check.of(BENT);
        x.labelAll();
        int[][] wrong = {{-1, 0}, {12, 0}, {0, -1}, {0, 8}, {39, 0}, {0, 39}, {LEAST, 0}, {MOST, 0}, {0, LEAST}, {0, MOST}};
        for (int[] w : wrong) {
            due("labelAt", x.labelAt(w[0], w[1]), -1);
        }
        due("labelAt(20, 0) of a new object", new LineDiagram().labelAt(20, 0), -1);
    }

    @Says(in = "Promise 36", words = "NOT_FOUND if there is none")
    private static void noLabelThere() {
        LineDiagram x = Check.of(BENT);
        due("labelAt without labels", x.labelAt(2, 0), -2);
        x.label(0, 0, 2);
        due("labelAt ahead of a label", x.labelAt(1, 0), -2);
        due("labelAt a label", x.labelAt(2, 0), 65);
        due("labelAt behind a label", x.labelAt(4, 0), -2);
        due("labelAt below a label", x.labelAt(2, 1), -2);
        x.unlabel(0, 0);
        due("labelAt behind unlabel", x.labelAt(2, 0), -2);
        due("labelAt of a new object", new LineDiagram().labelAt(0, 0), -2);
    }

    // ---- promise 37

    @Says(in = "Promise 37", words = "Counts places that have no label and no POSITION in which one would fit")
    private static void stuckPlaces() {
        due("stuck() without places", new LineDiagram().stuck(), 0);
        due("stuck() where all have room", Check.of(BENT).stuck(), 0);
        due("stuck() where none has room", Check.of("board 4 4 turn 2;line a size 10 stops 2 at 0 0 at 3 0;").stuck(), 2);
        due("a place of two lines", Check.of("board 4 4 turn 2;line a size 10 stops 2 at 0 0 at 3 0;line b size 1 stops 2 at 0 0 at 0 3;").stuck(), 2);
        // (0, 0) and (2, 0) have (1, 0), (2, 0) has (3, 0) and (3, 1) too; (0, 3) and (1, 3) have none
        LineDiagram x = Check.of("board 8 4 turn 2;line a size 1 stops 2 at 0 0 at 0 3;line b size 1 stops 2 at 2 0 at 2 3;line c size 1 stops 2 at 1 1 at 1 3;");
        due("stuck()", x.stuck(), 2);
        x.label(0, 0, 0);
        due("stuck() does not count what has a label, nor what has other room", x.stuck(), 3);
        due("position of (1, 1)'s room, which is taken", x.free(2, 0), 0);
        x.unlabel(0, 0);
        x.label(1, 0, 1);
        due("stuck() counts (0, 0) when its room is taken", x.stuck(), 4);
        // b takes all the room of the last cell
        String last = "board 40 40 turn 2;line a size 1 stops 2 at 39 39 at 30 39;";
        due("stuck() of the last cell with room", Check.of(last).stuck(), 0);
        due("stuck() of the last cell without room", Check.of(last + "line b size 1 stops 2 at 39 38 at 30 38;").stuck(), 1);
    }

    // ---- promise 38

    @Says(in = "Promise 38", words = "0 the labels that would be lost, 1 all crossings at cells, 2 all crossings between cells, 3 the length of the line")
    private static void numbersIfMoved() {
        LineDiagram x = Check.of(CROSSES);
        int[][] ways = {{0, 1, 2, 2, 0, 2, 0, 2}, {0, 1, 5, 5, 0, 2, 1, 5}, {2, 1, 3, 1, 0, 1, 1, 3}, {2, 1, 1, 1, 0, 0, 1, 1}, {1, 0, 4, 1, 0, 1, 0, 1}};
        for (int[] w : ways) {
            for (int what = 0; what < 4; what++) {
                due("ifMoved(" + w[0] + ", " + w[1] + ", " + w[2] + ", " + w[3] + ", " + what + ")", x.ifMoved(w[0], w[1], w[2], w[3], what), w[4 + what]);
            }
        }
        x.label(0, 1, 0);
        x.label(1, 1, 0);
        due("none lost", x.ifMoved(2, 1, 8, 1, 0), 0);
        due("one lost with its place", x.ifMoved(0, 1, 2, 2, 0), 1);
        due("label of c below (0, 1)", x.label(2, 0, 7), 1);
        due("one lost with its place, one under the line", x.ifMoved(0, 1, 0, 4, 0), 2);
        due("one lost with its place", x.ifMoved(2, 0, 1, 1, 0), 1);
    }

    @Says(in = "Promise 38", words = "Tells what would come of a point that is moved")
    private static void ifMovedChangesNothing() {
        LineDiagram x = Check.of(CROSSES);
        x.labelAll();
        String picture = Check.picture(x);
        for (int what = 0; what < 4; what++) {
            x.ifMoved(0, 1, 5, 5, what);
            x.ifMoved(2, 1, 1, 1, what);
            x.ifMoved(2, 1, 2, 2, what);
        }
        CHECK.due("picture", Check.picture(x), picture);
        CHECK.due("setup", Check.setup(x), CROSSES);
        due("undo() of labelAll alone", x.undo(), 0);
        due("undo()", x.undo(), -1);
        due("ifMoved", x.ifMoved(2, 1, 3, 1, 1), 1);
        due("what moveBend brings", x.moveBend(2, 1, 3, 1), 0);
        due("crossings then", x.value(9), 1);
    }

    @Says(in = "Promise 38", words = "or what moveBend() would return below 0")
    private static void refusedIfMoved() {
        LineDiagram x = Check.of(BENT.replace("stops 3", "stops 8"));
        int[][] wrong = {{-1, 0, 0, 1}, {1, 0, 0, 1}, {0, -1, 0, 1}, {0, 3, 0, 1}, {0, 0, -1, 1}, {0, 0, 12, 1}, {0, 0, 1, -1}, {0, 0, 1, 8},
            {LEAST, 0, 0, 1}, {0, MOST, 0, 1}, {0, 0, MOST, 1}, {0, 0, 1, LEAST}};
        for (int what = 0; what < 4; what++) {
            for (int[] w : wrong) {
                due("ifMoved", x.ifMoved(w[0], w[1], w[2], w[3], what), -1);
            }
            due("ifMoved to where it is", x.ifMoved(0, 2, 8, 4, what), -2);
            due("ifMoved off the eighths", x.ifMoved(0, 2, 9, 4, what), -3);
            due("ifMoved that turns too sharply and is short", x.ifMoved(0, 2, 3, 3, what), -3);
            due("ifMoved that is short", x.ifMoved(0, 2, 7, 3, what), -4);
            due("ifMoved without lines", new LineDiagram().ifMoved(0, 0, 0, 0, what), -1);
        }
    }

    @Says(in = "Promise 38", words = "INVALID for any other what")
    private static void otherIfMoved() {
        LineDiagram x = Check.of(BENT);
        for (int what : new int[] {-1, 4, LEAST, MOST}) {
            due("ifMoved(.., " + what + ")", x.ifMoved(0, 2, 9, 5, what), -1);
            due("ifMoved to where it is, (.., " + what + ")", x.ifMoved(0, 2, 8, 4, what), -1);
            due("ifMoved off the eighths, (.., " + what + ")", x.ifMoved(0, 2, 9, 4, what), -1);
        }
        due("ifMoved(.., 3)", x.ifMoved(0, 2, 9, 5, 3), 8);
    }

    // ---- promise 39

    @Says(in = "Promise 39", words = "Returns the way (0 to 7) to the neighbour to which moving it would not be refused")
    private static void movesThatAreNotRefused() {
        // from (5, 5) away from a point two steps off, as nearer would be too short for three stops
        String[] ends = {"3 5", "3 3", "5 3", "7 3", "7 5", "7 7", "5 7", "3 7"};
        for (int way = 0; way < 8; way++) {
            LineDiagram x = Check.of("board 11 11 turn 2;line a size 1 stops 3 at 5 5 at " + ends[way] + ";");
            due("bestMove away from " + ends[way], x.bestMove(0, 0), way);
        }
        due("bestMove of a last point", Check.of("board 11 11 turn 2;line a size 1 stops 3 at 3 5 at 5 5;").bestMove(0, 1), 0);
        // a bend to the other corner of its square; by way 0 it would turn by 3
        due("bestMove of a bend", Check.of("board 11 11 turn 2;line a size 1 stops 2 at 4 5 at 5 5 at 5 6;").bestMove(0, 1), 3);
    }

    @Says(in = "Promise 39", words = "with the least sum of all crossings of the diagram (at and between cells) and labels lost")
    private static void leastSums() {
        // to the right the end of a comes over b
        String over = "line a size 1 stops 3 at 0 3 at 6 3;line b size 1 stops 2 at 6 0 at 6 6;";
        LineDiagram x = Check.of(HEAD + over);
        due("a crossing, or none", x.bestMove(0, 1), 4);
        // by way 4 the station in the middle goes from (3, 3) to (2, 3)
        due("label of (3, 3)", x.label(0, 1, 2), 2);
        due("a crossing, or a label lost", x.bestMove(0, 1), 0);
        due("label of (6, 3), which is lost either way", x.label(0, 2, 2), 3);
        due("a crossing and a label, or two labels", x.bestMove(0, 1), 0);
        x = Check.of(HEAD + over + "line c size 1 stops 2 at 8 1 at 11 4;line d size 1 stops 2 at 11 1 at 8 4;");
        due("crossings elsewhere as well", x.bestMove(0, 1), 4);
        x = Check.of(HEAD + "line a size 1 stops 2 at 0 0 at 2 2;line b size 1 stops 2 at 0 5 at 5 0;");
        due("a crossing between cells, or none", x.bestMove(0, 1), 5);
        x = Check.of(HEAD + "line a size 1 stops 2 at 2 2 at 5 2;line b size 1 stops 2 at 7 2 at 7 5;");
        due("label at (6, 2)", x.label(1, 0, 1), 1);
        due("a label under the line, or none", x.bestMove(0, 1), 4);
    }

    @Says(in = "Promise 39", words = "of several the first way")
    private static void firstOfSeveralMoves() {
        due("ways 0 and 4", Check.of(HEAD + "line a size 1 stops 2 at 5 3 at 8 3;").bestMove(0, 0), 0);
        due("ways 2 and 6", Check.of(HEAD + "line a size 1 stops 2 at 5 3 at 5 6;").bestMove(0, 0), 2);
        due("ways 3 and 7", Check.of(HEAD + "line a size 1 stops 2 at 5 3 at 2 6;").bestMove(0, 0), 3);
        // (6, 4) has all its neighbours, but for way 0 the label at (6, 3) is lost
        LineDiagram x = Check.of(HEAD + "line a size 1 stops 2 at 5 3 at 6 4;line b size 1 stops 2 at 7 3 at 9 3;");
        due("the first way without labels", x.bestMove(0, 0), 0);
        due("label at (6, 3)", x.label(1, 0, 1), 1);
        due("the first way beside a label", x.bestMove(0, 0), 2);
    }

    @Says(in = "Promise 39", words = "INVALID for an invalid argument")
    private static void invalidBestMove() {
        LineDiagram x = Check.of(BENT);
        int[][] wrong = {{-1, 0}, {1, 0}, {0, -1}, {0, 3}, {0, 10}, {LEAST, 0}, {MOST, 0}, {0, LEAST}, {0, MOST}};
        for (int[] w : wrong) {
            due("bestMove", x.bestMove(w[0], w[1]), -1);
        }
        due("bestMove without lines", new LineDiagram().bestMove(0, 0), -1);
    }

    @Says(in = "Promise 39", words = "NOT_FOUND if there is none")
    private static void noBestMove() {
        due("at the edge, and short", Check.of(HEAD + "line a size 1 stops 4 at 0 3 at 3 3;").bestMove(0, 0), -2);
        due("at the other edge, and short", Check.of(HEAD + "line a size 1 stops 4 at 8 3 at 11 3;").bestMove(0, 1), -2);
        due("above, and short", Check.of(HEAD + "line a size 1 stops 4 at 5 0 at 5 3;").bestMove(0, 0), -2);
        due("below, and short", Check.of(HEAD + "line a size 1 stops 4 at 5 4 at 5 7;").bestMove(0, 1), -2);
        due("in a corner, and short", Check.of(HEAD + "line a size 1 stops 3 at 0 0 at 2 2;").bestMove(0, 0), -2);
        due("a bend that is crooked elsewhere", Check.of(HEAD + "line a size 1 stops 2 at 1 1 at 4 1 at 6 3;").bestMove(0, 1), -2);
    }

    @Says(in = "Promise 39", words = "Finds a better place for a point")
    private static void bestMoveChangesNothing() {
        LineDiagram x = Check.of(CROSSES);
        x.labelAll();
        String picture = Check.picture(x);
        for (int i = 0; i < 6; i++) {
            x.bestMove(i / 2, i % 2);
        }
        CHECK.due("picture", Check.picture(x), picture);
        CHECK.due("setup", Check.setup(x), CROSSES);
        due("undo() of labelAll alone", x.undo(), 0);
        due("undo()", x.undo(), -1);
    }

    // ---- promise 40

    @Says(in = "Promise 40", words = "Returns how many labels labelAll() would bring")
    private static void couldLabel() {
        due("without places", new LineDiagram().couldLabel(), 0);
        due("where none fits", Check.of("board 4 4 turn 2;line a size 10 stops 2 at 0 0 at 3 0;").couldLabel(), 0);
        LineDiagram x = Check.of(BENT);
        due("where all fit", x.couldLabel(), 3);
        due("labels", x.value(6), 0);
        due("at(2, 0)", x.at(2, 0), 0);
        due("undo()", x.undo(), -1);
        due("label", x.label(0, 0, 2), 2);
        due("beside a label", x.couldLabel(), 2);
        due("labels", x.value(6), 1);
        due("labelAll()", x.labelAll(), 2);
        due("when all have one", x.couldLabel(), 0);
        due("labels", x.value(6), 3);
        due("undo()", x.undo(), 1);
        // of (10, 0), (10, 1), (1, 2) and (9, 2) the last one has no room beside the others
        x = Check.of(HEAD + "line a size 6 stops 2 at 1 2 at 9 2;line b size 3 stops 2 at 10 1 at 10 0;");
        due("where one is in the way of another one", x.couldLabel(), 3);
        due("stuck() ahead of that", x.stuck(), 0);
    }
}
