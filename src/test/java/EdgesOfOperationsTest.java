/** The sentences of promises 6 to 18 that name an edge: a test for each. */
public final class EdgesOfOperationsTest {
    private static final Check CHECK = new Check("EdgesOfOperationsTest");
    private static final String HEAD = "board 12 8 turn 2;";
    /** Seven steps, with stations at (1, 1), (4, 1) and (8, 4) of LONG 2, 3 and 4. */
    private static final String BENT = HEAD + "line a size 2 stops 3 at 1 1 at 5 1 at 8 4;";
    private static final String TEN = HEAD
        + "line a size 1 stops 2 at 0 0 at 1 0 at 2 0 at 3 0 at 4 0 at 5 0 at 6 0 at 7 0 at 8 0 at 9 0;";
    /** Labels of a in columns 2 and 3, and 6 to 8, of row 1, where the upright line b ends. */
    private static final String UNDER = HEAD + "line a size 2 stops 2 at 1 2 at 7 2;line b size 1 stops 2 at 0 5 at 0 1;";
    private static final int LEAST = Integer.MIN_VALUE;
    private static final int MOST = Integer.MAX_VALUE;

    public static void main(String[] args) throws Exception {
        CHECK.eachSentence(EdgesOfOperationsTest.class);
        CHECK.end();
    }

    private static void due(String call, double got, double want) {
        CHECK.due(call, got, want);
    }

    private static LineDiagram under() {
        LineDiagram x = Check.of(UNDER);
        x.label(0, 0, 2);
        x.label(0, 1, 6);
        return x;
    }

    /** The setup as it was, and no operation. */
    private static void unchanged(LineDiagram x, String setup) {
        CHECK.due("setup", Check.setup(x), setup);
        due("undo()", x.undo(), -1);
    }

    // ---- promise 6

    @Says(in = "Promise 6", words = "Returns the number of labels that are lost")
    private static void lostByMoveBend() {
        due("moveBend upon none", under().moveBend(1, 0, 0, 7), 0);
        due("moveBend upon one", under().moveBend(1, 0, 3, 1), 1);
        due("moveBend upon both", under().moveBend(1, 0, 9, 1), 2);
        due("moveBend that takes a place away", under().moveBend(0, 1, 6, 2), 1);
        due("moveBend that leaves all places", Check.of(UNDER).moveBend(0, 1, 6, 2), 0);
    }

    @Says(in = "Promise 6", words = "a point of it, from 0")
    private static void pointsFromZero() {
        LineDiagram x = Check.of(BENT);
        due("moveBend of the first point", x.moveBend(0, 0, 0, 1), 0);
        due("moveBend of the last point", x.moveBend(0, 2, 9, 5), 0);
        CHECK.due("setup", Check.setup(x), HEAD + "line a size 2 stops 3 at 0 1 at 5 1 at 9 5;");
    }

    @Says(in = "Promise 6", words = "INVALID for an invalid argument")
    private static void invalidMoveBend() {
        LineDiagram x = Check.of(BENT);
        int[][] wrong = {{-1, 0, 0, 1}, {1, 0, 0, 1}, {0, -1, 0, 1}, {0, 3, 0, 1}, {0, 0, -1, 1}, {0, 0, 12, 1}, {0, 0, 1, -1}, {0, 0, 1, 8},
            {LEAST, 0, 0, 1}, {MOST, 0, 0, 1}, {0, LEAST, 0, 1}, {0, MOST, 0, 1}, {0, 0, LEAST, 1}, {0, 0, MOST, 1}, {0, 0, 0, LEAST}, {0, 0, 0, MOST}};
        for (int[] w : wrong) {
            due("moveBend", x.moveBend(w[0], w[1], w[2], w[3]), -1);
        }
        unchanged(x, BENT);
        due("moveBend without lines", new LineDiagram().moveBend(0, 0, 0, 0), -1);
    }

    @Says(in = "Promise 6", words = "NOT_FOUND if it is there already")
    private static void moveBendToWhereItIs() {
        LineDiagram x = Check.of(BENT);
        due("moveBend of the first point", x.moveBend(0, 0, 1, 1), -2);
        due("moveBend of the bend", x.moveBend(0, 1, 5, 1), -2);
        due("moveBend of the last point", x.moveBend(0, 2, 8, 4), -2);
        unchanged(x, BENT);
        // one coordinate alone may stay
        due("moveBend within its row", x.moveBend(0, 0, 0, 1), 0);
        due("moveBend within its column", Check.of(UNDER).moveBend(1, 1, 0, 2), 0);
    }

    @Says(in = "Promise 6", words = "CROOKED, SHORT")
    private static void refusedMoveBend() {
        LineDiagram x = Check.of(BENT);
        due("moveBend off the eighths", x.moveBend(0, 2, 9, 4), -3);
        due("moveBend of the bend off the eighths of one side", x.moveBend(0, 1, 6, 1), -3);
        due("moveBend that turns too sharply", x.moveBend(0, 2, 3, 3), -3);
        due("moveBend that turns back", x.moveBend(0, 2, 3, 1), -3);
        unchanged(x, BENT);
        x = Check.of(BENT.replace("stops 3", "stops 8"));
        due("moveBend that takes a step away", x.moveBend(0, 2, 7, 3), -4);
        unchanged(x, BENT.replace("stops 3", "stops 8"));
        due("moveBend that brings a step", x.moveBend(0, 2, 9, 5), 0);
        due("moveBend back", x.moveBend(0, 2, 8, 4), 0);
    }

    // ---- promise 7

    @Says(in = "Promise 7", words = "the number that it gets, 0 to the number of its points")
    private static void numbersOfInsertedPoints() {
        String[] setups = {"at 0 0 at 1 1 at 5 1 at 8 4", "at 1 1 at 3 1 at 5 1 at 8 4", "at 1 1 at 5 1 at 6 2 at 8 4", "at 1 1 at 5 1 at 8 4 at 8 7"};
        int[][] cells = {{0, 0}, {3, 1}, {6, 2}, {8, 7}};
        for (int i = 0; i < 4; i++) {
            LineDiagram x = Check.of(BENT);
            due("insert(0, " + i + ")", x.insert(0, i, cells[i][0], cells[i][1]), 0);
            CHECK.due("setup", Check.setup(x), HEAD + "line a size 2 stops 3 " + setups[i] + ";");
        }
        LineDiagram x = Check.of(BENT);
        due("insert(0, -1)", x.insert(0, -1, 0, 0), -1);
        due("insert(0, 4)", x.insert(0, 4, 8, 7), -1);
        unchanged(x, BENT);
    }

    @Says(in = "Promise 7", words = "Returns the number of labels that are lost")
    private static void lostByInsert() {
        due("insert upon none", under().insert(1, 0, 0, 7), 0);
        due("insert upon one", under().insert(1, 2, 3, 1), 1);
        due("insert upon both", under().insert(1, 2, 9, 1), 2);
    }

    @Says(in = "Promise 7", words = "INVALID for an invalid argument")
    private static void invalidInsert() {
        LineDiagram x = Check.of(BENT);
        int[][] wrong = {{-1, 0, 0, 0}, {1, 0, 0, 0}, {0, -1, 0, 0}, {0, 4, 8, 7}, {0, 0, -1, 1}, {0, 0, 12, 1}, {0, 0, 0, -1}, {0, 3, 8, 8},
            {LEAST, 0, 0, 0}, {MOST, 0, 0, 0}, {0, LEAST, 0, 0}, {0, MOST, 8, 7}, {0, 0, LEAST, 1}, {0, 0, MOST, 1}, {0, 0, 1, LEAST}, {0, 0, 1, MOST}};
        for (int[] w : wrong) {
            due("insert", x.insert(w[0], w[1], w[2], w[3]), -1);
        }
        unchanged(x, BENT);
        due("insert without lines", new LineDiagram().insert(0, 0, 0, 0), -1);
    }

    @Says(in = "Promise 7", words = "NOT_FOUND if the line has 10 points")
    private static void insertIntoTen() {
        LineDiagram x = Check.of(TEN);
        due("insert that would run", x.insert(0, 10, 10, 0), -2);
        due("insert that would be crooked", x.insert(0, 5, 11, 7), -2);
        unchanged(x, TEN);
        due("removePoint", x.removePoint(0, 9), 0);
        due("insert of a tenth one", x.insert(0, 9, 9, 0), 0);
        due("insert of an eleventh one", x.insert(0, 10, 10, 0), -2);
        CHECK.due("setup", Check.setup(x), TEN);
    }

    @Says(in = "Promise 7", words = "CROOKED")
    private static void crookedInsert() {
        LineDiagram x = Check.of(BENT);
        due("insert off the eighths", x.insert(0, 1, 2, 3), -3);
        due("insert on the eighths of one side alone", x.insert(0, 1, 2, 2), -3);
        due("insert upon the point behind", x.insert(0, 0, 1, 1), -3);
        due("insert upon the point ahead", x.insert(0, 3, 8, 4), -3);
        due("insert that turns too sharply", x.insert(0, 3, 5, 4), -3);
        due("insert that turns back", x.insert(0, 3, 6, 2), -3);
        unchanged(x, BENT);
        due("insert that turns by TURN", x.insert(0, 3, 6, 6), 0);
    }

    // ---- promise 8

    @Says(in = "Promise 8", words = "Returns the number of labels that are lost")
    private static void lostByRemovePoint() {
        LineDiagram x = Check.of(BENT);
        due("removePoint without labels", x.removePoint(0, 2), 0);
        for (int labels = 0; labels < 3; labels++) {
            x = Check.of(HEAD + "line a size 1 stops 2 at 1 1 at 5 1 at 8 4;");
            if (labels > 0) {
                due("label of what stays", x.label(0, 0, 2), 1);
            }
            if (labels > 1) {
                due("label of what goes", x.label(0, 1, 1), 2);
            }
            due("removePoint of the last of " + labels + " labels", x.removePoint(0, 2), labels / 2);
            due("labels", x.value(6), labels > 0 ? 1 : 0);
        }
    }

    @Says(in = "Promise 8", words = "INVALID for an invalid argument")
    private static void invalidRemovePoint() {
        LineDiagram x = Check.of(BENT);
        int[][] wrong = {{-1, 0}, {1, 0}, {0, -1}, {0, 3}, {LEAST, 0}, {MOST, 0}, {0, LEAST}, {0, MOST}};
        for (int[] w : wrong) {
            due("removePoint", x.removePoint(w[0], w[1]), -1);
        }
        unchanged(x, BENT);
        due("removePoint without lines", new LineDiagram().removePoint(0, 0), -1);
    }

    @Says(in = "Promise 8", words = "NOT_FOUND if the line has 2 points")
    private static void removePointOfTwo() {
        LineDiagram x = Check.of(BENT);
        due("removePoint of one of three", x.removePoint(0, 0), 0);
        due("removePoint of the first of two", x.removePoint(0, 0), -2);
        due("removePoint of the last of two", x.removePoint(0, 1), -2);
        CHECK.due("setup", Check.setup(x), HEAD + "line a size 2 stops 3 at 5 1 at 8 4;");
        due("undo()", x.undo(), 0);
    }

    @Says(in = "Promise 8", words = "CROOKED, SHORT")
    private static void refusedRemovePoint() {
        LineDiagram x = Check.of(BENT);
        due("removePoint of the bend", x.removePoint(0, 1), -3);
        x = Check.of("board 9 9 turn 2;line a size 1 stops 9 at 2 2 at 4 2 at 4 4 at 2 4 at 2 2;");
        due("removePoint that turns too sharply", x.removePoint(0, 2), -3);
        due("removePoint of the first that is short", x.removePoint(0, 0), -4);
        due("removePoint of the last that is short", x.removePoint(0, 4), -4);
        due("undo()", x.undo(), -1);
        due("setStops to what is left", x.setStops(0, 7), 0);
        due("removePoint of the first", x.removePoint(0, 0), 0);
        // (2, 2) to (4, 4) and back
        x = Check.of("board 9 9 turn 3;line a size 1 stops 2 at 2 2 at 4 2 at 4 4 at 2 2;");
        due("removePoint that turns back", x.removePoint(0, 1), -3);
    }

    // ---- promise 9

    @Says(in = "Promise 9", words = "its points are in the opposite order then")
    private static void oppositeOrder() {
        LineDiagram x = Check.of(TEN);
        due("reverse of ten points", x.reverse(0), 0);
        for (int i = 0; i < 10; i++) {
            due("point(0, " + i + ", true)", x.point(0, i, true), 9 - i);
        }
        x = Check.of(UNDER);
        due("reverse of two points", x.reverse(1), 0);
        CHECK.due("setup", Check.setup(x), UNDER.replace("at 0 5 at 0 1", "at 0 1 at 0 5"));
        x = Check.of(BENT);
        due("reverse of three points", x.reverse(0), 0);
        CHECK.due("setup", Check.setup(x), HEAD + "line a size 2 stops 3 at 8 4 at 5 1 at 1 1;");
    }

    /** Stations behind 3 of 7 steps, then behind 4 of them; and a label that grows off the board. */
    @Says(in = "Promise 9", words = "Returns the number of labels that are lost")
    private static void lostByReverse() {
        LineDiagram x = Check.of(BENT);
        due("reverse without labels", x.reverse(0), 0);
        x = Check.of(BENT);
        due("label of (4, 1)", x.label(0, 1, 6), 3);
        due("label of (1, 1)", x.label(0, 0, 3), 2);
        due("reverse", x.reverse(0), 1);
        due("position of (1, 1)", x.position(0, 2), 3);
        due("its LONG", x.value(8), 4);
        x = Check.of(HEAD + "line a size 1 stops 2 at 1 2 at 9 2;");
        due("label of 1 left of (1, 2)", x.label(0, 0, 1), 1);
        due("reverse", x.reverse(0), 1);
    }

    @Says(in = "Promise 9", words = "INVALID for an invalid argument")
    private static void invalidReverse() {
        LineDiagram x = Check.of(BENT);
        for (int line : new int[] {-1, 1, 8, LEAST, MOST}) {
            due("reverse(" + line + ")", x.reverse(line), -1);
        }
        unchanged(x, BENT);
        due("reverse without lines", new LineDiagram().reverse(0), -1);
    }

    // ---- promise 10

    @Says(in = "Promise 10", words = "2 to 20")
    private static void stopsFromTwoToTwenty() {
        LineDiagram x = Check.of("board 40 8 turn 2;line a size 1 stops 3 at 0 0 at 19 0;");
        due("setStops(0, 20)", x.setStops(0, 20), 0);
        due("places", x.value(5), 20);
        due("setStops(0, 21)", x.setStops(0, 21), -1);
        due("setStops(0, 2)", x.setStops(0, 2), 0);
        due("places", x.value(5), 2);
        due("setStops(0, 1)", x.setStops(0, 1), -1);
        due("setStops(0, 0)", x.setStops(0, 0), -1);
        due("STOPS", x.line(0, 1), 2);
    }

    @Says(in = "Promise 10", words = "Returns the number of labels that are lost")
    private static void lostBySetStops() {
        LineDiagram x = Check.of("board 20 8 turn 2;line a size 1 stops 5 at 1 3 at 9 3;");
        due("setStops without labels", x.setStops(0, 3), 0);
        due("undo()", x.undo(), 0);
        // (1, 3), (3, 3), (5, 3), (7, 3), (9, 3); with 3 stops 1, 5 and 9 are left
        for (int i = 0; i < 5; i++) {
            due("label(0, " + i + ")", x.label(0, i, i % 2 == 0 ? 6 : 7), new int[] {1, 2, 3, 1, 2}[i]);
        }
        due("setStops(0, 3)", x.setStops(0, 3), 2);
        due("setStops(0, 2)", x.setStops(0, 2), 1);
        due("labels", x.value(6), 2);
    }

    @Says(in = "Promise 10", words = "INVALID for an invalid argument")
    private static void invalidSetStops() {
        LineDiagram x = Check.of(BENT);
        int[][] wrong = {{-1, 2}, {1, 2}, {LEAST, 2}, {MOST, 2}, {0, 1}, {0, 0}, {0, -1}, {0, 21}, {0, LEAST}, {0, MOST}};
        for (int[] w : wrong) {
            due("setStops(" + w[0] + ", " + w[1] + ")", x.setStops(w[0], w[1]), -1);
        }
        unchanged(x, BENT);
        due("setStops without lines", new LineDiagram().setStops(0, 2), -1);
    }

    @Says(in = "Promise 10", words = "NOT_FOUND if it is so already; SHORT")
    private static void refusedSetStops() {
        LineDiagram x = Check.of(BENT);
        due("setStops to what it has", x.setStops(0, 3), -2);
        due("setStops to one too many", x.setStops(0, 9), -4);
        due("setStops to far too many", x.setStops(0, 20), -4);
        unchanged(x, BENT);
        due("setStops to as many as can be", x.setStops(0, 8), 0);
        due("setStops to that again", x.setStops(0, 8), -2);
    }

    // ---- promise 11

    @Says(in = "Promise 11", words = "1 to 10")
    private static void sizesFromOneToTen() {
        LineDiagram x = Check.of(BENT);
        due("setSize(0, 1)", x.setSize(0, 1), 0);
        due("LONG", x.station(0, 0, 4), 1);
        due("setSize(0, 0)", x.setSize(0, 0), -1);
        due("setSize(0, 10)", x.setSize(0, 10), 0);
        due("LONG", x.station(0, 2, 4), 12);
        due("setSize(0, 11)", x.setSize(0, 11), -1);
        due("SIZE", x.line(0, 2), 10);
    }

    @Says(in = "Promise 11", words = "Returns the number of labels that are lost")
    private static void lostBySetSize() {
        LineDiagram x = Check.of(BENT);
        due("setSize without labels", x.setSize(0, 10), 0);
        due("setSize without labels", x.setSize(0, 2), 0);
        due("label of (1, 1)", x.label(0, 0, 2), 2);
        due("label of (8, 4)", x.label(0, 2, 1), 4);
        due("setSize that makes them smaller", x.setSize(0, 1), 0);
        due("setSize to the last one that fits", x.setSize(0, 6), 0);
        due("setSize that makes the second one too long", x.setSize(0, 7), 1);
        due("setSize to the greatest that fits", x.setSize(0, 10), 0);
        due("labels", x.value(6), 1);
    }

    @Says(in = "Promise 11", words = "INVALID for an invalid argument")
    private static void invalidSetSize() {
        LineDiagram x = Check.of(BENT);
        int[][] wrong = {{-1, 3}, {1, 3}, {LEAST, 3}, {MOST, 3}, {0, 0}, {0, -1}, {0, 11}, {0, LEAST}, {0, MOST}};
        for (int[] w : wrong) {
            due("setSize(" + w[0] + ", " + w[1] + ")", x.setSize(w[0], w[1]), -1);
        }
        unchanged(x, BENT);
        due("setSize without lines", new LineDiagram().setSize(0, 1), -1);
    }

    @Says(in = "Promise 11", words = "NOT_FOUND if it is so already")
    private static void setSizeToWhatItIs() {
        LineDiagram x = Check.of(BENT);
        due("setSize to what it has", x.setSize(0, 2), -2);
        unchanged(x, BENT);
        due("setSize to another one", x.setSize(0, 3), 0);
        due("setSize to that again", x.setSize(0, 3), -2);
    }

    // ---- promise 12

    @Says(in = "Promise 12", words = "in place of a label that it has")
    private static void labelInPlaceOfAnother() {
        LineDiagram x = Check.of(BENT);
        due("label", x.label(0, 0, 2), 2);
        due("label in its place", x.label(0, 0, 3), 2);
        due("labels", x.value(6), 1);
        due("what it leaves", x.at(2, 0), 0);
        due("position", x.position(0, 0), 3);
        due("undo()", x.undo(), 1);
        due("position", x.position(0, 0), 2);
    }

    @Says(in = "Promise 12", words = "Returns the LONG of the label")
    private static void answersOfLabel() {
        due("label of the least LONG", Check.of(HEAD + "line a size 1 stops 2 at 1 3 at 9 3;").label(0, 0, 2), 1);
        LineDiagram x = Check.of("board 40 8 turn 2;line a size 10 stops 3 at 20 3 at 26 3;line b size 1 stops 2 at 26 3 at 26 5;");
        due("label of the greatest LONG", x.label(0, 2, 2), 12);
        due("label of it by a station of less", x.label(1, 0, 4), 12);
    }

    @Says(in = "Promise 12", words = "INVALID for an invalid argument")
    private static void invalidLabel() {
        LineDiagram x = Check.of(BENT);
        int[][] wrong = {{-1, 0, 2}, {1, 0, 2}, {0, -1, 2}, {0, 3, 2}, {0, 0, -1}, {0, 0, 8},
            {LEAST, 0, 2}, {MOST, 0, 2}, {0, LEAST, 2}, {0, MOST, 2}, {0, 0, LEAST}, {0, 0, MOST}};
        for (int[] w : wrong) {
            due("label", x.label(w[0], w[1], w[2]), -1);
        }
        due("labels", x.value(6), 0);
        unchanged(x, BENT);
        due("label without lines", new LineDiagram().label(0, 0, 0), -1);
    }

    @Says(in = "Promise 12", words = "NOT_FOUND if it has its label there already")
    private static void labelWhereItIs() {
        LineDiagram x = Check.of(HEAD + "line a size 2 stops 2 at 5 3 at 1 3;line b size 1 stops 2 at 5 3 at 5 6;");
        for (int position : new int[] {0, 2, 3, 4, 5, 6}) {
            due("label(0, 0, " + position + ")", x.label(0, 0, position), 2);
            due("label there again", x.label(0, 0, position), -2);
            due("label there by the other line", x.label(1, 0, position), -2);
        }
        due("undo()", x.undo(), 5);
    }

    @Says(in = "Promise 12", words = "the first reason for which it does not fit (OFF, ON_LINE, ON_LABEL; its own label does not count)")
    private static void reasonsOfLabel() {
        LineDiagram x = Check.of(HEAD + "line a size 3 stops 2 at 3 3 at 9 3;line b size 1 stops 2 at 6 2 at 6 0;line c size 1 stops 2 at 4 1 at 4 0;");
        due("label upon its own line and off the board", x.label(0, 1, 0), -5);
        due("label of 4 upon its own line", x.label(0, 1, 1), -6);
        due("label of c at (4, 2)", x.label(2, 0, 7), 1);
        due("label upon a label and a line behind it", x.label(0, 0, 2), -6);
        due("label upon a label alone, in columns 2 to 4", x.label(0, 0, 6), -7);
        due("label of 4 off the board upon a line", x.label(0, 1, 2), -5);
        due("label of 4 upon a line, in columns 5 to 8", x.label(0, 1, 4), -6);
        x = Check.of(HEAD + "line a size 3 stops 2 at 5 3 at 5 6;");
        due("label in columns 6 to 8", x.label(0, 0, 2), 3);
        due("label in columns 4 to 6, upon its own label", x.label(0, 0, 6), 3);
        due("label in columns 2 to 4, upon its own label", x.label(0, 0, 4), 3);
        due("undo() of three", x.undo(), 2);
    }

    @Says(in = "Promise 12", words = "ON_LINE, ON_LABEL")
    private static void lineAheadOfLabel() {
        // above right of (1, 3) a label of 4 takes columns 2 to 5: a line in 2 and a label in 5, or the other way round
        for (int line : new int[] {2, 5}) {
            LineDiagram x = Check.of(HEAD + "line a size 4 stops 2 at 1 3 at 1 6;line b size 1 stops 2 at " + line + " 0 at " + line + " 2;"
                + "line c size 1 stops 2 at " + (7 - line) + " 1 at " + (7 - line) + " 0;");
            due("label of c", x.label(2, 0, 7), 1);
            due("label upon a line in " + line + " and a label", x.label(0, 0, 2), -6);
            due("why", x.why(0, 0, 2), -6);
        }
    }

    // ---- promise 13

    @Says(in = "Promise 13", words = "Returns its POSITION")
    private static void answersOfUnlabel() {
        for (int position = 0; position < 8; position++) {
            LineDiagram x = Check.of(HEAD + "line a size 2 stops 2 at 5 3 at " + (position == 0 ? "1 3;" : "9 3;"));
            x.label(0, 0, position);
            due("unlabel(0, 0)", x.unlabel(0, 0), position);
            due("labels", x.value(6), 0);
            due("cells of labels", x.value(8), 0);
        }
    }

    @Says(in = "Promise 13", words = "INVALID for an invalid argument")
    private static void invalidUnlabel() {
        LineDiagram x = Check.of(BENT);
        x.label(0, 0, 2);
        int[][] wrong = {{-1, 0}, {1, 0}, {0, -1}, {0, 3}, {LEAST, 0}, {MOST, 0}, {0, LEAST}, {0, MOST}};
        for (int[] w : wrong) {
            due("unlabel", x.unlabel(w[0], w[1]), -1);
        }
        due("labels", x.value(6), 1);
        due("undo()", x.undo(), 0);
        due("unlabel without lines", new LineDiagram().unlabel(0, 0), -1);
    }

    @Says(in = "Promise 13", words = "NOT_FOUND if it has none")
    private static void unlabelOfNone() {
        LineDiagram x = Check.of(BENT);
        due("unlabel without a label", x.unlabel(0, 0), -2);
        unchanged(x, BENT);
        x.label(0, 0, 2);
        due("unlabel of another place", x.unlabel(0, 1), -2);
        due("unlabel", x.unlabel(0, 0), 2);
        due("unlabel again", x.unlabel(0, 0), -2);
        due("undo()", x.undo(), 1);
    }

    // ---- promise 14

    /** (0, 0) has the cell (1, 0) alone, where the label of (2, 0) lies. */
    private static final String TIGHT = "board 8 4 turn 2;line a size 1 stops 2 at 0 0 at 0 3;"
        + "line b size 1 stops 2 at 2 0 at 2 3;line c size 1 stops 2 at 1 1 at 1 3;";

    @Says(in = "Promise 14", words = "if a label fits in a POSITION, it comes in the first such one")
    private static void dodgeThatFits() {
        LineDiagram x = Check.of(HEAD + "line a size 2 stops 2 at 5 3 at 9 3;");
        x.label(0, 0, 2);
        // columns 6 to 8 of row 2 are taken by a label that could dodge, those of row 4 are free
        due("free(0, 1)", x.free(0, 1), 1 << 5 | 1 << 6 | 1 << 7);
        due("dodge(0, 1)", x.dodge(0, 1), 5);
        due("its position", x.position(0, 1), 5);
        due("labelAt(6, 4)", x.labelAt(6, 4), 64 * 3 + 9);
        due("position of the other one", x.position(0, 0), 2);
        x = Check.of(HEAD + "line a size 2 stops 2 at 5 3 at 1 3;");
        due("dodge into POSITION 0", x.dodge(0, 0), 0);
        // (11, 6) of a board of 12 by 8, with lines on all sides but below
        x = Check.of(HEAD + "line a size 1 stops 2 at 11 6 at 9 4;line b size 1 stops 2 at 10 6 at 10 7;line c size 1 stops 2 at 11 5 at 10 5;");
        due("free(0, 0)", x.free(0, 0), 128);
        due("dodge into POSITION 7", x.dodge(0, 0), 7);
        due("labelAt(11, 7)", x.labelAt(11, 7), 64 * 6 + 11);
    }

    @Says(in = "Promise 14", words = "Otherwise the POSITIONS are tried in their order")
    private static void dodgeInOrder() {
        // (0, 0) has (1, 0) and (1, 1), each with a label that can go; the lines in both orders
        String a = "line a size 1 stops 2 at 0 0 at 0 5;", b = "line b size 1 stops 2 at 2 0 at 5 0;", c = "line c size 1 stops 2 at 2 2 at 5 2;";
        for (int first = 1; first <= 2; first++) {
            LineDiagram x = Check.of("board 8 6 turn 2;" + a + (first == 1 ? b + c : c + b));
            due("label at (1, 0)", x.label(first, 0, 1), 1);
            due("label at (1, 1)", x.label(3 - first, 0, 4), 1);
            due("free", x.free(0, 0), 0);
            due("dodge", x.dodge(0, 0), 0);
            due("position of what goes", x.position(first, 0), 3);
            due("position of what stays", x.position(3 - first, 0), 4);
        }
    }

    @Says(in = "Promise 14", words = "those in which it would lie, on the board and on no line, upon labels of just one other place")
    private static void dodgeUponOneOtherPlace() {
        // a label of 2 upon both cells of one label
        LineDiagram x = Check.of("board 8 4 turn 2;line a size 2 stops 2 at 0 0 at 0 3;line b size 2 stops 2 at 3 0 at 3 3;line c size 1 stops 2 at 1 1 at 1 3;");
        due("label", x.label(1, 0, 1), 2);
        due("dodge upon both cells of one label", x.dodge(0, 0), 0);
        due("position of the other one", x.position(1, 0), 0);
        // upon one label, and a cell with nothing ahead of it or behind it
        for (int other = 1; other <= 2; other++) {
            x = Check.of("board 8 4 turn 2;line a size 2 stops 2 at 0 0 at 0 3;line c size 1 stops 2 at " + other + " 1 at " + (3 - other) + " 1;");
            due("label at (" + other + ", 0)", x.label(1, 0, 6), 1);
            due("dodge upon a label and a free cell", x.dodge(0, 0), 0);
            due("labelAt(1, 0)", x.labelAt(1, 0), 0);
            due("labelAt(2, 0)", x.labelAt(2, 0), 0);
        }
        // upon one label, beside another one that only touches the new one
        x = Check.of("board 9 5 turn 2;line a size 1 stops 2 at 0 0 at 0 4;line c size 1 stops 2 at 1 1 at 1 4;line d size 1 stops 2 at 3 1 at 3 4;");
        due("label at (1, 0)", x.label(1, 0, 6), 1);
        due("label at (2, 0)", x.label(2, 0, 4), 1);
        due("dodge beside a second label", x.dodge(0, 0), 0);
        due("position of the one that dodges", x.position(1, 0), 0);
        due("position of the one beside", x.position(2, 0), 4);
        // upon labels of two places in POSITION 0, of one in POSITION 2
        x = Check.of(HEAD + "line a size 2 stops 2 at 0 2 at 0 6;line c size 1 stops 2 at 1 3 at 5 3;line d size 1 stops 2 at 3 2 at 3 0;");
        due("label at (1, 2)", x.label(1, 0, 6), 1);
        due("label at (2, 2)", x.label(2, 0, 1), 1);
        due("label at (1, 1) and (2, 1)", x.label(2, 1, 5), 2);
        due("free", x.free(0, 0), 0);
        due("dodge", x.dodge(0, 0), 2);
        due("position of the one that dodges", x.position(2, 1), 0);
        due("position of the first one under POSITION 0", x.position(1, 0), 6);
        due("position of the second one under POSITION 0", x.position(2, 0), 1);
        // upon labels of two places, and nowhere else
        x = Check.of("board 9 6 turn 2;line a size 2 stops 2 at 0 0 at 0 5;line c size 1 stops 2 at 1 1 at 5 1;line e size 1 stops 2 at 3 1 at 3 3;");
        x.label(1, 0, 6);
        x.label(2, 0, 4);
        due("dodge upon two places", x.dodge(0, 0), -2);
        due("labels", x.value(6), 2);
        // one of these two is that of the first cell
        x = Check.of("board 4 5 turn 2;line q size 1 stops 2 at 0 0 at 3 0;line r size 1 stops 2 at 0 2 at 0 4;line p size 2 stops 2 at 2 1 at 2 4;");
        due("label of (0, 0)", x.label(0, 0, 3), 1);
        due("label of (0, 2)", x.label(1, 0, 6), 1);
        due("why of (2, 1)", x.why(2, 0, 1), -7);
        due("dodge upon two places, one on the first cell", x.dodge(2, 0), -2);
        // upon a label and a line
        x = Check.of("board 9 5 turn 2;line a size 2 stops 2 at 0 0 at 0 4;line c size 1 stops 2 at 1 1 at 1 4;line d size 1 stops 2 at 2 0 at 5 0;");
        x.label(1, 0, 6);
        due("dodge upon a label and a line", x.dodge(0, 0), -2);
        // upon a label and off the board
        x = Check.of("board 4 6 turn 2;line a size 4 stops 2 at 0 0 at 0 5;line c size 1 stops 2 at 1 1 at 1 4;");
        x.label(1, 0, 6);
        due("dodge upon a label and off the board", x.dodge(0, 0), -2);
        due("position of the other one", x.position(1, 0), 6);
    }

    @Says(in = "Promise 14", words = "for which another POSITION is free beside the new one")
    private static void dodgeBesideTheNewOne() {
        // the label of (8, 2) under POSITION 0 has no other POSITION, that of (3, 1) under POSITION 2 has one
        LineDiagram x = Check.of(HEAD + "line a size 1 stops 2 at 0 2 at 0 6;line b size 1 stops 2 at 0 1 at 0 0;line c size 2 stops 2 at 3 1 at 7 1;"
            + "line d size 2 stops 2 at 3 3 at 7 3;line e size 7 stops 2 at 8 2 at 8 0;");
        due("label in row 2", x.label(4, 0, 1), 7);
        due("label in row 1", x.label(2, 0, 1), 2);
        due("label in row 3", x.label(3, 0, 1), 2);
        String before = Check.picture(x);
        due("free", x.free(0, 0), 0);
        due("dodge", x.dodge(0, 0), 2);
        due("position of what cannot go", x.position(4, 0), 1);
        due("position of what goes", x.position(2, 0), 2);
        due("position of what need not go", x.position(3, 0), 1);
        due("undo()", x.undo(), 3);
        CHECK.due("picture", Check.picture(x), before);
        // another POSITION that only the new label takes: (1, 0) and (1, 1) of (0, 0) and (2, 1)
        x = Check.of("board 9 5 turn 2;line a size 1 stops 2 at 3 0 at 7 0;line b size 1 stops 2 at 1 0 at 2 0;line c size 1 stops 2 at 3 1 at 7 1;"
            + "line d size 1 stops 2 at 0 0 at 0 3;line e size 1 stops 2 at 1 1 at 1 3;");
        due("label", x.label(1, 0, 3), 1);
        due("dodge where both have one cell alone", x.dodge(0, 0), -2);
        due("position of the other one", x.position(1, 0), 3);
        due("labels", x.value(6), 1);
        // the same of two neighbours: (1, 1) of (0, 0) and (1, 0)
        x = Check.of("board 9 5 turn 2;line a size 1 stops 2 at 0 0 at 0 4;line b size 1 stops 2 at 1 0 at 5 0;line c size 1 stops 2 at 2 1 at 5 1;");
        due("label", x.label(1, 0, 7), 1);
        due("dodge of the neighbour", x.dodge(0, 0), -2);
        due("position of the other one", x.position(1, 0), 7);
    }

    @Says(in = "Promise 14", words = "(what it leaves is free then)")
    private static void dodgeLeavesCells() {
        // the label of (2, 1) goes from columns 1 to 3 to columns 3 to 5
        LineDiagram x = Check.of("board 9 5 turn 2;line a size 1 stops 2 at 0 0 at 0 4;line b size 3 stops 2 at 2 1 at 6 1;line c size 1 stops 2 at 1 1 at 1 4;");
        due("label", x.label(1, 0, 6), 3);
        due("dodge", x.dodge(0, 0), 0);
        due("position of the other one", x.position(1, 0), 2);
        int[] places = {-2, 0, -2, 66, 66, 66, -2};
        for (int column = 0; column < places.length; column++) {
            due("labelAt(" + column + ", 0)", x.labelAt(column, 0), places[column]);
        }
        due("cells of labels", x.value(8), 4);
    }

    @Says(in = "Promise 14", words = "this label goes to its first such one then")
    private static void dodgeToTheFirst() {
        LineDiagram x = Check.of(TIGHT);
        x.label(1, 0, 1);
        due("dodge", x.dodge(0, 0), 0);
        due("position of the other one", x.position(1, 0), 0);
        due("labelAt(1, 0)", x.labelAt(1, 0), 0);
        due("labelAt(3, 0)", x.labelAt(3, 0), 2);
        // with (3, 0) taken, (3, 1) below right is the first one
        x = Check.of(TIGHT + "line d size 1 stops 2 at 3 0 at 5 0;");
        x.label(1, 0, 1);
        due("dodge", x.dodge(0, 0), 0);
        due("position of the other one", x.position(1, 0), 3);
    }

    @Says(in = "Promise 14", words = "lets another label dodge it, if need be")
    private static void dodgeOfTheFirstCell() {
        // the label of the place (0, 0) goes from (1, 0) to (1, 1)
        LineDiagram x = Check.of("board 8 4 turn 2;line a size 2 stops 2 at 3 0 at 3 3;line b size 1 stops 2 at 0 0 at 0 3;"
            + "line c size 1 stops 2 at 4 0 at 4 3;line d size 1 stops 2 at 2 1 at 2 3;");
        due("label of (0, 0)", x.label(1, 0, 0), 1);
        due("dodge of (3, 0)", x.dodge(0, 0), 1);
        due("position of (0, 0)", x.position(1, 0), 3);
        // the new label comes to (0, 0), where that of (0, 1) lies
        x = Check.of("board 9 5 turn 2;line a size 1 stops 2 at 1 0 at 5 0;line b size 1 stops 2 at 0 1 at 4 1;");
        due("label of (0, 1)", x.label(1, 0, 6), 1);
        due("dodge of (1, 0)", x.dodge(0, 0), 1);
        due("labelAt(0, 0)", x.labelAt(0, 0), 1);
        due("position of (0, 1)", x.position(1, 0), 3);
    }

    @Says(in = "Promise 14", words = "Returns the POSITION in which the label comes")
    private static void answersOfDodge() {
        LineDiagram x = Check.of(TIGHT);
        x.label(1, 0, 1);
        due("dodge", x.dodge(0, 0), 0);
        due("position", x.position(0, 0), 0);
        due("labels", x.value(6), 2);
        // (7, 0) at the right edge has (6, 0), left of it, alone
        x = Check.of("board 8 4 turn 2;line a size 1 stops 2 at 7 0 at 7 3;line b size 1 stops 2 at 5 0 at 5 3;line c size 1 stops 2 at 6 1 at 6 3;");
        due("label", x.label(1, 0, 0), 1);
        due("dodge", x.dodge(0, 0), 1);
        due("position", x.position(0, 0), 1);
        due("position of the other one", x.position(1, 0), 1);
        // (11, 6) has (11, 7), below, alone, where the label of (10, 7) lies, which can go to (9, 7)
        x = Check.of(HEAD + "line a size 1 stops 2 at 11 6 at 9 4;line b size 1 stops 2 at 10 7 at 10 6;line c size 1 stops 2 at 11 5 at 10 5;");
        due("label", x.label(1, 0, 0), 1);
        due("dodge", x.dodge(0, 0), 7);
        due("position", x.position(0, 0), 7);
        due("position of the other one", x.position(1, 0), 1);
    }

    @Says(in = "Promise 14", words = "INVALID for an invalid argument")
    private static void invalidDodge() {
        LineDiagram x = Check.of(BENT);
        int[][] wrong = {{-1, 0}, {1, 0}, {0, -1}, {0, 3}, {LEAST, 0}, {MOST, 0}, {0, LEAST}, {0, MOST}};
        for (int[] w : wrong) {
            due("dodge", x.dodge(w[0], w[1]), -1);
        }
        due("labels", x.value(6), 0);
        unchanged(x, BENT);
        due("dodge without lines", new LineDiagram().dodge(0, 0), -1);
    }

    @Says(in = "Promise 14", words = "NOT_FOUND if it has a label, or there is no such POSITION")
    private static void dodgeInVain() {
        LineDiagram x = Check.of(HEAD + "line a size 2 stops 2 at 5 3 at 1 3;line b size 1 stops 2 at 5 3 at 5 6;");
        for (int position : new int[] {0, 2, 3, 4, 5, 6}) {
            x.label(0, 0, position);
            due("dodge with a label", x.dodge(0, 0), -2);
            due("dodge with a label by the other line", x.dodge(1, 0), -2);
            due("position", x.position(0, 0), position);
        }
        due("undo()", x.undo(), 5);
        // lines and edges on all sides
        x = Check.of("board 4 4 turn 2;line a size 10 stops 2 at 0 0 at 3 0;");
        due("dodge without any room", x.dodge(0, 0), -2);
        due("undo()", x.undo(), -1);
        x = Check.of(TIGHT + "line d size 1 stops 2 at 3 0 at 3 3;");
        x.label(1, 0, 1);
        String picture = Check.picture(x);
        due("dodge where the other one cannot go", x.dodge(0, 0), -2);
        CHECK.due("picture", Check.picture(x), picture);
        due("labelAt(1, 0)", x.labelAt(1, 0), 2);
        due("undo()", x.undo(), 0);
        // what was tried in vain in columns 1 to 3 leaves nothing behind
        x = Check.of("board 9 5 turn 2;line a size 3 stops 2 at 0 0 at 0 4;line b size 1 stops 2 at 2 1 at 6 1;"
            + "line c size 1 stops 2 at 1 1 at 1 4;line d size 1 stops 2 at 5 2 at 2 2;");
        due("label at (3, 0)", x.label(1, 0, 2), 1);
        picture = Check.picture(x);
        due("dodge of three columns", x.dodge(0, 0), -2);
        CHECK.due("picture", Check.picture(x), picture);
        due("labelAt(1, 0)", x.labelAt(1, 0), -2);
        due("labelAt(3, 0)", x.labelAt(3, 0), 66);
    }

    // ---- promise 15

    @Says(in = "Promise 15", words = "Returns how many labels come")
    private static void answersOfLabelAll() {
        due("labelAll without places", new LineDiagram().labelAll(), 0);
        LineDiagram x = Check.of(BENT);
        due("labelAll where all fit", x.labelAll(), 3);
        due("labelAll when all have one", x.labelAll(), 0);
        x.unlabel(0, 1);
        due("labelAll when one has none", x.labelAll(), 1);
        due("labelAll where none fits", Check.of("board 4 4 turn 2;line a size 10 stops 2 at 0 0 at 3 0;").labelAll(), 0);
    }

    /** Eight upright lines of 20 stations, every 5 columns: as many labels as there can be, all right of their places. */
    @Says(in = "Promise 15", words = "Returns how many labels come")
    private static void labelAllOfAllThatCanBe() {
        StringBuilder text = new StringBuilder("board 40 40 turn 2;");
        for (int i = 0; i < 8; i++) {
            text.append("line ").append((char) ('a' + i)).append(" size 1 stops 20 at ").append(5 * i).append(" 0 at ").append(5 * i).append(" 38;");
        }
        LineDiagram x = Check.of(text.toString());
        due("couldLabel", x.couldLabel(), 160);
        due("labelAll", x.labelAll(), 160);
        due("labels", x.value(6), 160);
        due("cells of labels", x.value(8), 8 * (7 * 1 + 7 * 2 + 6 * 3));
        due("labelled()", x.labelled(), 1);
        due("keep", x.keep(0), 160);
        due("unlabel of the last place", x.unlabel(7, 19), 0);
        due("unlabel of the first place", x.unlabel(0, 0), 0);
        due("unlabel of one between", x.unlabel(3, 10), 0);
        due("labels", x.value(6), 157);
        due("labelAll", x.labelAll(), 3);
        // a label of 5 columns comes upon the next line
        due("setSize(0, 3)", x.setSize(0, 3), 6);
        due("undo()", x.undo(), 5);
        due("labels", x.value(6), 160);
        due("setSize(7, 10)", x.setSize(7, 10), 20);
        due("restore", x.restore(0), 160);
        due("position of the last place", x.position(7, 19), 0);
    }

    @Says(in = "Promise 15", words = "as far as that can be")
    private static void labelAllAsFarAsCanBe() {
        // (1, 0) and (3, 0), of LONG 11 and 10, have no room
        LineDiagram x = Check.of("board 4 4 turn 2;line a size 1 stops 3 at 0 0 at 3 3;line b size 10 stops 2 at 3 0 at 1 0;");
        due("labelAll", x.labelAll(), 3);
        due("position of (0, 0)", x.position(0, 0), 7);
        due("position of (1, 1)", x.position(0, 1), 0);
        due("position of (3, 3)", x.position(0, 2), 1);
        due("position of (3, 0)", x.position(1, 0), -2);
        due("stuck()", x.stuck(), 2);
        due("labelAll again", x.labelAll(), 0);
        // the last cell has room above left alone, and none when b runs there
        String last = "board 40 40 turn 2;line a size 1 stops 2 at 39 39 at 30 39;";
        x = Check.of(last);
        due("labelAll with the last cell", x.labelAll(), 2);
        due("position of the last cell", x.position(0, 0), 4);
        x = Check.of(last + "line b size 1 stops 2 at 39 38 at 30 38;");
        due("labelAll without room for the last cell", x.labelAll(), 3);
        due("position of the last cell", x.position(0, 0), -2);
    }

    // ---- promise 16

    @Says(in = "Promise 16", words = "0 or 1")
    private static void slotsToKeepIn() {
        LineDiagram x = Check.of(BENT);
        due("keep(-1)", x.keep(-1), -1);
        due("keep(2)", x.keep(2), -1);
        due("keep(0)", x.keep(0), 0);
        due("restore(1)", x.restore(1), -2);
        due("keep(1)", x.keep(1), 0);
        due("restore(1)", x.restore(1), 0);
        due("restore(0)", x.restore(0), 0);
    }

    @Says(in = "Promise 16", words = "in place of what it had")
    private static void keepInPlace() {
        LineDiagram x = Check.of(BENT);
        x.labelAll();
        due("keep(0)", x.keep(0), 3);
        x.unlabel(0, 0);
        x.setSize(0, 1);
        due("keep(0)", x.keep(0), 2);
        x.labelAll();
        x.setSize(0, 3);
        due("restore(0)", x.restore(0), 2);
        due("SIZE", x.line(0, 2), 1);
        due("position(0, 0)", x.position(0, 0), -2);
    }

    @Says(in = "Promise 16", words = "Returns the number of labels")
    private static void answersOfKeep() {
        LineDiagram x = Check.of(BENT);
        due("keep without labels", x.keep(0), 0);
        x.label(0, 0, 2);
        due("keep with a label", x.keep(1), 1);
        x.labelAll();
        due("keep with three labels", x.keep(0), 3);
        due("keep without lines", new LineDiagram().keep(0), 0);
    }

    @Says(in = "Promise 16", words = "INVALID for an invalid argument")
    private static void invalidKeep() {
        LineDiagram x = Check.of(BENT);
        for (int slot : new int[] {-1, 2, LEAST, MOST}) {
            due("keep(" + slot + ")", x.keep(slot), -1);
        }
        due("restore(0)", x.restore(0), -2);
        due("restore(1)", x.restore(1), -2);
    }

    // ---- promise 17

    @Says(in = "Promise 17", words = "Makes everything that operations change as it was kept in a slot; the slot keeps it")
    private static void slotsKeepIt() {
        String text = "board 10 6 turn 2;line a size 2 stops 2 at 1 2 at 7 2;line b size 1 stops 2 at 0 3 at 0 1;";
        LineDiagram x = Check.of(text);
        x.labelAll();
        x.keep(0);
        String picture = Check.picture(x);
        for (int i = 0; i < 2; i++) {
            due("unlabel", x.unlabel(0, 0) >= 0 ? 1 : 0, 1);
            due("moveBend", x.moveBend(1, 0, 0, 5 - i) >= 0 ? 1 : 0, 1);
            due("insert", x.insert(0, 1, 4, 2), 0);
            due("reverse", x.reverse(0) >= 0 ? 1 : 0, 1);
            due("setStops", x.setStops(0, 4 + i) >= 0 ? 1 : 0, 1);
            due("setSize", x.setSize(1, 5 + i) >= 0 ? 1 : 0, 1);
            due("restore(0)", x.restore(0), 4);
            CHECK.due("setup", Check.setup(x), text);
            CHECK.due("picture", Check.picture(x), picture);
        }
    }

    @Says(in = "Promise 17", words = "0 or 1")
    private static void slotsToRestore() {
        LineDiagram x = Check.of(BENT);
        x.keep(0);
        x.setSize(0, 3);
        x.keep(1);
        x.setSize(0, 4);
        due("restore(-1)", x.restore(-1), -1);
        due("restore(2)", x.restore(2), -1);
        due("SIZE", x.line(0, 2), 4);
        due("restore(0)", x.restore(0), 0);
        due("SIZE of slot 0", x.line(0, 2), 2);
        due("restore(1)", x.restore(1), 0);
        due("SIZE of slot 1", x.line(0, 2), 3);
    }

    @Says(in = "Promise 17", words = "Returns the number of labels then")
    private static void answersOfRestore() {
        LineDiagram x = Check.of(BENT);
        x.keep(0);
        x.labelAll();
        x.keep(1);
        due("restore of none", x.restore(0), 0);
        due("restore of three", x.restore(1), 3);
        due("labels", x.value(6), 3);
        x = new LineDiagram();
        x.keep(1);
        due("restore without lines", x.restore(1), 0);
    }

    @Says(in = "Promise 17", words = "INVALID for an invalid argument")
    private static void invalidRestore() {
        LineDiagram x = Check.of(BENT);
        x.keep(0);
        x.keep(1);
        for (int slot : new int[] {-1, 2, LEAST, MOST}) {
            due("restore(" + slot + ")", x.restore(slot), -1);
        }
        unchanged(x, BENT);
    }

    @Says(in = "Promise 17", words = "NOT_FOUND if the slot is empty")
    private static void emptySlots() {
        LineDiagram x = Check.of(BENT);
        due("restore(0)", x.restore(0), -2);
        due("restore(1)", x.restore(1), -2);
        unchanged(x, BENT);
        x.keep(1);
        due("restore(0) beside a full one", x.restore(0), -2);
        x.keep(0);
        Check.write(x, BENT);
        x.load();
        due("restore(0) behind load", x.restore(0), -2);
        due("restore(1) behind load", x.restore(1), -2);
    }

    // ---- promise 18

    @Says(in = "Promise 18", words = "Undoes the latest operation (section 6) that has not been undone")
    private static void latestFirst() {
        LineDiagram x = Check.of(BENT);
        x.setSize(0, 3);
        x.setSize(0, 4);
        x.setSize(0, 5);
        x.undo();
        due("SIZE behind one undo()", x.line(0, 2), 4);
        x.undo();
        due("SIZE behind two", x.line(0, 2), 3);
        x.setSize(0, 9);
        x.undo();
        due("SIZE behind another operation and undo()", x.line(0, 2), 3);
        x.undo();
        due("SIZE behind the last undo()", x.line(0, 2), 2);
        due("undo()", x.undo(), -1);
    }

    @Says(in = "Promise 18", words = "Returns the number of operations that can still be undone")
    private static void answersOfUndo() {
        LineDiagram x = Check.of(BENT);
        for (int many = 1; many <= 10; many++) {
            x.setSize(0, many % 2 == 0 ? 2 : 3);
            due("undo() of " + many, x.undo(), Math.min(many, 8) - 1);
            x.setSize(0, many % 2 == 0 ? 2 : 3);
        }
        for (int left = 7; left >= 0; left--) {
            due("undo()", x.undo(), left);
        }
    }

    @Says(in = "Promise 18", words = "INVALID if there is none")
    private static void nothingToUndo() {
        LineDiagram x = new LineDiagram();
        due("undo() of a new object", x.undo(), -1);
        x = Check.of(BENT);
        due("undo() behind load", x.undo(), -1);
        x.keep(0);
        x.label(0, 0, 0);
        due("undo() behind calls that are no operations", x.undo(), -1);
        x.label(0, 0, 2);
        due("undo()", x.undo(), 0);
        due("undo() when all is undone", x.undo(), -1);
        due("undo() again", x.undo(), -1);
        CHECK.due("setup", Check.setup(x), BENT);
    }
}
