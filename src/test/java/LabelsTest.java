/** Promises 12 to 15 and 33 to 37: labels, where they fit, and how they dodge (section 3). */
public final class LabelsTest {
    private static final Check CHECK = new Check("LabelsTest");
    private static final String ONE = "board 12 8 turn 2;line a size 2 stops 2 at 5 3 at 9 3;";
    private static final String TIGHT = "board 8 4 turn 2;line a size 1 stops 2 at 0 0 at 0 3;"
        + "line b size 1 stops 2 at 2 0 at 2 3;line c size 1 stops 2 at 1 1 at 1 3;";

    public static void main(String[] args) {
        wrongArguments();
        positions();
        reasons();
        label();
        unlabel();
        longs();
        dodges();
        dodgesToTheRight();
        dodgesInVain();
        dodgesInOrder();
        dodgesOneAlone();
        dodgesOfTheFirstCell();
        dodgesToTheFirstCell();
        dodgesBesideOthers();
        dodgesOnlyBesideTheNewOne();
        labelAll();
        stuck();
        CHECK.end();
    }

    private static void wrongArguments() {
        LineDiagram x = Check.of(ONE);
        int[][] wrong = {{-1, 0}, {1, 0}, {0, -1}, {0, 2}, {Integer.MAX_VALUE, Integer.MIN_VALUE}};
        for (int[] w : wrong) {
            CHECK.due("label", x.label(w[0], w[1], 2), -1);
            CHECK.due("unlabel", x.unlabel(w[0], w[1]), -1);
            CHECK.due("dodge", x.dodge(w[0], w[1]), -1);
            CHECK.due("position", x.position(w[0], w[1]), -1);
            CHECK.due("why", x.why(w[0], w[1], 2), -1);
            CHECK.due("free", x.free(w[0], w[1]), -1);
        }
        for (int p : new int[] {-1, 8, Integer.MIN_VALUE, Integer.MAX_VALUE}) {
            CHECK.due("label", x.label(0, 0, p), -1);
            CHECK.due("why", x.why(0, 0, p), -1);
        }
        int[][] off = {{-1, 0}, {12, 0}, {0, -1}, {0, 8}};
        for (int[] o : off) {
            CHECK.due("labelAt", x.labelAt(o[0], o[1]), -1);
        }
        CHECK.due("undo", x.undo(), -1);
    }

    /** Where a label of each POSITION lies: the LONG of (5, 3) is 2, that of (9, 3) is 3. */
    private static void positions() {
        LineDiagram x = Check.of(ONE);
        int[] left = {6, 3, 6, 6, 3, 3, 4, 4};
        int[] row = {3, 3, 2, 4, 2, 4, 2, 4};
        for (int p = 1; p < 8; p++) {
            CHECK.due("label(0, 0, " + p + ")", x.label(0, 0, p), 2);
            CHECK.due("value(8)", x.value(8), 2);
            CHECK.due("labelAt(" + left[p] + ", " + row[p] + ")", x.labelAt(left[p], row[p]), 64 * 3 + 5);
            CHECK.due("labelAt its other cell", x.labelAt(left[p] + 1, row[p]), 64 * 3 + 5);
            CHECK.due("labelAt beside it", x.labelAt(left[p] + 2, row[p]), -2);
            CHECK.due("position(0, 0)", x.position(0, 0), p);
        }
        x.unlabel(0, 0);
        CHECK.due("free(0, 0)", x.free(0, 0), 254);
        CHECK.due("free(0, 1)", x.free(0, 1), 240);
        x.label(0, 1, 6);
        for (int column = 7; column < 12; column++) {
            CHECK.due("labelAt(" + column + ", 2)", x.labelAt(column, 2), column > 7 && column < 11 ? 64 * 3 + 9 : -2);
        }
        CHECK.due("position(0, 0)", x.position(0, 0), -2);
    }

    private static void reasons() {
        LineDiagram x = Check.of(ONE + "line b size 1 stops 2 at 8 0 at 8 2;");
        CHECK.due("why on its line", x.why(0, 0, 0), -6);
        CHECK.due("why off the board", x.why(0, 1, 0), -5);
        CHECK.due("why on another line", x.why(0, 1, 4), -6);
        CHECK.due("why that fits", x.why(0, 0, 2), 0);
        CHECK.due("label", x.label(0, 0, 2), 2);
        CHECK.due("why upon its own label", x.why(0, 0, 2), 0);
        CHECK.due("free of a place with a label", x.free(0, 0), 254);
        CHECK.due("why on a line, upon a label too", x.why(0, 1, 4), -6);
        x.label(0, 0, 3);
        CHECK.due("why upon a label", x.why(0, 1, 5), -7);
        CHECK.due("free beside a label", x.free(0, 1), 128);
        x = Check.of("board 12 8 turn 2;line a size 2 stops 2 at 5 3 at 1 3;");
        CHECK.due("free to the right, and not on its line", x.free(0, 0), 253);
        x = Check.of("board 12 8 turn 2;line a size 10 stops 3 at 1 3 at 9 3;");
        CHECK.due("why off the board, on a line too", x.why(0, 1, 0), -5);
        CHECK.due("why at the edge: columns 2 to 11", x.why(0, 0, 2), 0);
        CHECK.due("why over the edge: from column -4 on", x.why(0, 0, 6), -5);
    }

    private static void label() {
        LineDiagram x = Check.of(ONE);
        CHECK.due("label on a line", x.label(0, 0, 0), -6);
        CHECK.due("label off the board", x.label(0, 1, 3), -5);
        CHECK.due("undo", x.undo(), -1);
        CHECK.due("label", x.label(0, 0, 3), 2);
        CHECK.due("label there again", x.label(0, 0, 3), -2);
        CHECK.due("label upon a label", x.label(0, 1, 5), -7);
        CHECK.due("label elsewhere", x.label(0, 0, 6), 2);
        CHECK.due("labels", x.value(6), 1);
        CHECK.due("what it leaves", x.at(6, 4), 0);
        CHECK.due("label of 3", x.label(0, 1, 5), 3);
        CHECK.due("label upon its own cells", x.label(0, 1, 7), 3);
        CHECK.due("cells of labels", x.value(8), 5);
        CHECK.due("undo", x.undo(), 3);
        CHECK.due("position", x.position(0, 1), 5);
    }

    private static void unlabel() {
        LineDiagram x = Check.of(ONE);
        CHECK.due("unlabel without a label", x.unlabel(0, 0), -2);
        CHECK.due("undo", x.undo(), -1);
        x.label(0, 0, 4);
        CHECK.due("unlabel", x.unlabel(0, 0), 4);
        CHECK.due("labels", x.value(6), 0);
        CHECK.due("what it leaves", x.at(3, 2), 0);
        CHECK.due("unlabel again", x.unlabel(0, 0), -2);
        CHECK.due("undo", x.undo(), 1);
        CHECK.due("position", x.position(0, 0), 4);
    }

    /** The LONG of a place is the greatest of its stations, of all lines. */
    private static void longs() {
        LineDiagram x = Check.of(ONE + "line b size 4 stops 2 at 5 7 at 5 3;");
        CHECK.due("its LONG as a station of a", x.station(0, 0, 4), 2);
        CHECK.due("its LONG as a station of b", x.station(1, 1, 4), 5);
        CHECK.due("label", x.label(0, 0, 1), 5);
        CHECK.due("labelAt(0, 3)", x.labelAt(0, 3), 64 * 3 + 5);
        CHECK.due("position by the other line", x.position(1, 1), 1);
        CHECK.due("label by the other line", x.label(1, 1, 1), -2);
        CHECK.due("unlabel by the other line", x.unlabel(1, 1), 1);
        // a loop comes to its first place again as station 4, with a remainder of 1
        x = Check.of("board 12 8 turn 2;line a size 2 stops 5 at 3 2 at 6 2 at 6 5 at 3 5 at 3 2;");
        CHECK.due("label", x.label(0, 0, 2), 3);
        CHECK.due("position(0, 4)", x.position(0, 4), 2);
        CHECK.due("labels", x.value(6), 1);
    }

    private static void dodges() {
        LineDiagram x = Check.of(ONE);
        CHECK.due("dodge that fits at once", x.dodge(0, 1), 4);
        CHECK.due("dodge with a label", x.dodge(0, 1), -2);
        CHECK.due("dodge that fits at once", x.dodge(0, 0), 1);
        CHECK.due("undo", x.undo(), 1);

        // (0, 0) has (1, 0) alone, where the label of (2, 0) lies; that one can go to (3, 0)
        x = Check.of(TIGHT);
        CHECK.due("label", x.label(1, 0, 1), 1);
        CHECK.due("free", x.free(0, 0), 0);
        CHECK.due("dodge", x.dodge(0, 0), 0);
        CHECK.due("its position", x.position(0, 0), 0);
        CHECK.due("the other position", x.position(1, 0), 0);
        CHECK.due("labelAt(1, 0)", x.labelAt(1, 0), 0);
        CHECK.due("labelAt(3, 0)", x.labelAt(3, 0), 2);
        CHECK.due("undo", x.undo(), 1);
        CHECK.due("its position", x.position(0, 0), -2);
        CHECK.due("the other position", x.position(1, 0), 1);

        x = Check.of(TIGHT + "line d size 1 stops 2 at 3 0 at 3 3;");
        x.label(1, 0, 1);
        CHECK.due("dodge where the other one cannot go", x.dodge(0, 0), -2);
        CHECK.due("the other position", x.position(1, 0), 1);
        CHECK.due("labelAt(1, 0)", x.labelAt(1, 0), 2);
        CHECK.due("labels", x.value(6), 1);
        CHECK.due("undo", x.undo(), 0);
    }

    /** POSITION 0 is a POSITION like any other. */
    private static void dodgesToTheRight() {
        LineDiagram x = Check.of("board 12 8 turn 2;line a size 2 stops 2 at 5 3 at 1 3;");
        CHECK.due("dodge that fits to the right", x.dodge(0, 0), 0);
        CHECK.due("dodge with a label to the right", x.dodge(0, 0), -2);
        CHECK.due("labels", x.value(6), 1);
        CHECK.due("undo", x.undo(), 0);
        CHECK.due("labels", x.value(6), 0);
    }

    /** A POSITION that is tried in vain leaves no cells behind, and what lay there stays whole. */
    private static void dodgesInVain() {
        LineDiagram x = Check.of("board 9 5 turn 2;line a size 3 stops 2 at 0 0 at 0 4;line b size 1 stops 2 at 2 1 at 6 1;"
            + "line c size 1 stops 2 at 1 1 at 1 4;line d size 1 stops 2 at 5 2 at 2 2;");
        CHECK.due("label", x.label(1, 0, 2), 1);
        CHECK.due("labelAt(3, 0)", x.labelAt(3, 0), 66);
        String picture = Check.picture(x);
        CHECK.due("dodge", x.dodge(0, 0), -2);
        CHECK.due("picture", Check.picture(x), picture);
        CHECK.due("labelAt(1, 0)", x.labelAt(1, 0), -2);
        CHECK.due("labelAt(3, 0)", x.labelAt(3, 0), 66);
        CHECK.due("cells of labels", x.value(8), 1);
    }

    /** (0, 0) has (1, 0) and (1, 1), each with a label that can go. */
    private static void dodgesInOrder() {
        LineDiagram x = Check.of("board 8 6 turn 2;line a size 1 stops 2 at 0 0 at 0 5;"
            + "line b size 1 stops 2 at 2 0 at 5 0;line c size 1 stops 2 at 2 2 at 5 2;");
        CHECK.due("label", x.label(1, 0, 1), 1);
        CHECK.due("label", x.label(2, 0, 4), 1);
        CHECK.due("free", x.free(0, 0), 0);
        CHECK.due("dodge", x.dodge(0, 0), 0);
        // (2, 0) has below right (3, 1) first; 5, below left, is where the label of (2, 2) lies
        CHECK.due("position(1, 0)", x.position(1, 0), 3);
        CHECK.due("position(2, 0)", x.position(2, 0), 4);
        x.undo();
        // what it leaves is free for the other one: a label of 2 may move by one cell
        x = Check.of("board 9 5 turn 2;line a size 1 stops 2 at 0 0 at 0 4;line b size 2 stops 2 at 2 1 at 6 1;"
            + "line c size 1 stops 2 at 1 1 at 1 4;");
        CHECK.due("label", x.label(1, 0, 6), 2);
        CHECK.due("labelAt(1, 0)", x.labelAt(1, 0), 66);
        CHECK.due("dodge", x.dodge(0, 0), 0);
        CHECK.due("position(1, 0)", x.position(1, 0), 2);
        CHECK.due("labelAt(3, 0)", x.labelAt(3, 0), 66);
        CHECK.due("labelAt(2, 0)", x.labelAt(2, 0), -2);
    }

    /** A label that would lie upon those of two places is not tried. */
    private static void dodgesOneAlone() {
        LineDiagram x = Check.of("board 9 6 turn 2;line a size 2 stops 2 at 0 0 at 0 5;"
            + "line c size 1 stops 2 at 1 1 at 5 1;line e size 1 stops 2 at 3 1 at 3 3;");
        CHECK.due("label", x.label(1, 0, 6), 1);
        CHECK.due("label", x.label(2, 0, 4), 1);
        CHECK.due("why", x.why(0, 0, 0), -7);
        CHECK.due("dodge upon two labels", x.dodge(0, 0), -2);
        CHECK.due("labels", x.value(6), 2);
        x.unlabel(2, 0);
        CHECK.due("dodge upon one label", x.dodge(0, 0), 0);
        CHECK.due("position(1, 0)", x.position(1, 0), 3);
    }

    /** The label that dodges is that of the place (0, 0). */
    private static void dodgesOfTheFirstCell() {
        LineDiagram x = Check.of("board 8 4 turn 2;line a size 2 stops 2 at 3 0 at 3 3;line b size 1 stops 2 at 0 0 at 0 3;"
            + "line c size 1 stops 2 at 4 0 at 4 3;line d size 1 stops 2 at 2 1 at 2 3;");
        CHECK.due("label", x.label(1, 0, 0), 1);
        CHECK.due("labelAt(1, 0)", x.labelAt(1, 0), 0);
        CHECK.due("free", x.free(0, 0), 0);
        CHECK.due("dodge", x.dodge(0, 0), 1);
        CHECK.due("position(1, 0)", x.position(1, 0), 3);
        CHECK.due("labelAt(1, 1)", x.labelAt(1, 1), 0);
    }

    /** (1, 0) has (0, 0) alone, where the label of (0, 1) lies. */
    private static void dodgesToTheFirstCell() {
        LineDiagram x = Check.of("board 9 5 turn 2;line a size 1 stops 2 at 1 0 at 5 0;line b size 1 stops 2 at 0 1 at 4 1;");
        CHECK.due("why", x.why(0, 0, 1), 0);
        CHECK.due("free", x.free(0, 0), 2);
        CHECK.due("label", x.label(1, 0, 6), 1);
        CHECK.due("labelAt(0, 0)", x.labelAt(0, 0), 64);
        CHECK.due("dodge", x.dodge(0, 0), 1);
        CHECK.due("labelAt(0, 0)", x.labelAt(0, 0), 1);
        CHECK.due("position(1, 0)", x.position(1, 0), 3);
    }

    /** (0, 0) has (1, 0) alone, where the label of (1, 1) lies, which can go to (2, 1). */
    private static void dodgesBesideOthers() {
        String lines = "line c size 1 stops 2 at 1 1 at 1 4;";
        LineDiagram x = Check.of("board 9 5 turn 2;line a size 1 stops 2 at 0 0 at 0 4;" + lines + "line d size 1 stops 2 at 3 1 at 3 4;");
        CHECK.due("label", x.label(1, 0, 6), 1);
        CHECK.due("label right of it", x.label(2, 0, 4), 1);
        CHECK.due("dodge that only touches the second one", x.dodge(0, 0), 0);
        CHECK.due("position(1, 0)", x.position(1, 0), 0);
        CHECK.due("position(2, 0)", x.position(2, 0), 4);
        // a label of 2 would lie on (2, 0) too, a line
        x = Check.of("board 9 5 turn 2;line a size 2 stops 2 at 0 0 at 0 4;" + lines + "line d size 1 stops 2 at 2 0 at 5 0;");
        CHECK.due("label", x.label(1, 0, 6), 1);
        CHECK.due("dodge upon a label and a line", x.dodge(0, 0), -2);
        CHECK.due("position(1, 0)", x.position(1, 0), 6);
    }

    /** The other label has no POSITION but one upon the new label. */
    private static void dodgesOnlyBesideTheNewOne() {
        LineDiagram x = Check.of("board 9 5 turn 2;line a size 1 stops 2 at 0 0 at 0 4;line b size 1 stops 2 at 1 0 at 5 0;"
            + "line c size 1 stops 2 at 2 1 at 5 1;");
        CHECK.due("label", x.label(1, 0, 7), 1);
        CHECK.due("dodge of the neighbour", x.dodge(0, 0), -2);
        CHECK.due("position(1, 0)", x.position(1, 0), 7);
        x = Check.of("board 9 5 turn 2;line a size 1 stops 2 at 3 0 at 7 0;line b size 1 stops 2 at 1 0 at 2 0;"
            + "line c size 1 stops 2 at 3 1 at 7 1;line d size 1 stops 2 at 0 0 at 0 3;line e size 1 stops 2 at 1 1 at 1 3;");
        CHECK.due("label", x.label(1, 0, 3), 1);
        CHECK.due("dodge of the next but one", x.dodge(0, 0), -2);
        CHECK.due("position(1, 0)", x.position(1, 0), 3);
    }

    private static void labelAll() {
        LineDiagram x = Check.of("board 12 8 turn 2;line a size 2 stops 2 at 1 3 at 1 6;line b size 2 stops 2 at 4 3 at 4 6;");
        CHECK.due("couldLabel", x.couldLabel(), 4);
        CHECK.due("labels", x.value(6), 0);
        CHECK.due("labelAll", x.labelAll(), 4);
        CHECK.due("position(0, 0)", x.position(0, 0), 0);
        CHECK.due("position(1, 0)", x.position(1, 0), 0);
        CHECK.due("position(0, 1)", x.position(0, 1), 3);
        CHECK.due("position(1, 1)", x.position(1, 1), 0);
        CHECK.due("couldLabel", x.couldLabel(), 0);
        CHECK.due("labelAll", x.labelAll(), 0);
        CHECK.due("undo", x.undo(), 1);
        CHECK.due("labels", x.value(6), 4);
        CHECK.due("undo", x.undo(), 0);
        CHECK.due("labels", x.value(6), 0);
        // labels that are there stay, and those that come make way for them
        x.label(1, 0, 1);
        CHECK.due("labelAll", x.labelAll(), 3);
        CHECK.due("position(1, 0)", x.position(1, 0), 1);
        CHECK.due("position(0, 0)", x.position(0, 0), 2);
        CHECK.due("labelAll of a new object", new LineDiagram().labelAll(), 0);
        x = Check.of("board 12 8 turn 2;line a size 2 stops 2 at 0 0 at 0 6;");
        CHECK.due("labelAll with a place on the first cell", x.labelAll(), 2);
        CHECK.due("labelAt(1, 0)", x.labelAt(1, 0), 0);
    }

    private static void stuck() {
        LineDiagram x = Check.of(TIGHT);
        // (0, 3) and (1, 3), whose labels of 2 have lines or the edge on all sides
        CHECK.due("stuck", x.stuck(), 2);
        CHECK.due("why(2, 1, 0)", x.why(2, 1, 0), -6);
        x.label(1, 0, 1);
        CHECK.due("stuck with a label upon the last place left", x.stuck(), 4);
        CHECK.due("stuck of a new object", new LineDiagram().stuck(), 0);
        x.unlabel(1, 0);
        x.label(0, 0, 0);
        CHECK.due("stuck does not count what has a label", x.stuck(), 3);
    }
}
