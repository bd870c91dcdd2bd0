/** Promises 6 to 11, the changes of lines, and what they do to labels (section 3). */
public final class ChangesTest {
    private static final Check CHECK = new Check("ChangesTest");
    private static final String HEAD = "board 12 8 turn 2;";
    private static final String BENT = HEAD + "line a size 2 stops 3 at 1 1 at 5 1 at 8 4;";

    public static void main(String[] args) {
        moveBend();
        insert();
        removePoint();
        removePointOfTen();
        reverse();
        setStops();
        setSize();
        labelsUnderLines();
        labelsWithoutPlaces();
        labelsThatGrow();
        CHECK.end();
    }

    /** Nothing may have changed, nor become an operation. */
    private static void same(LineDiagram x, String setup) {
        CHECK.due("setup", Check.setup(x), setup);
        CHECK.due("undo()", x.undo(), -1);
    }

    private static void moveBend() {
        LineDiagram x = Check.of(BENT);
        CHECK.due("moveBend(-1, 0, 0, 0)", x.moveBend(-1, 0, 0, 0), -1);
        CHECK.due("moveBend(1, 0, 0, 0)", x.moveBend(1, 0, 0, 0), -1);
        CHECK.due("moveBend(0, -1, 0, 0)", x.moveBend(0, -1, 0, 0), -1);
        CHECK.due("moveBend(0, 3, 0, 0)", x.moveBend(0, 3, 0, 0), -1);
        CHECK.due("moveBend(0, 0, -1, 1)", x.moveBend(0, 0, -1, 1), -1);
        CHECK.due("moveBend(0, 0, 12, 1)", x.moveBend(0, 0, 12, 1), -1);
        CHECK.due("moveBend(0, 0, 1, -1)", x.moveBend(0, 0, 1, -1), -1);
        CHECK.due("moveBend(0, 0, 1, 8)", x.moveBend(0, 0, 1, 8), -1);
        CHECK.due("moveBend to where it is", x.moveBend(0, 1, 5, 1), -2);
        CHECK.due("moveBend off the eighths", x.moveBend(0, 2, 9, 4), -3);
        CHECK.due("moveBend upon the next point", x.moveBend(0, 0, 5, 1), -3);
        CHECK.due("moveBend that turns too sharply", x.moveBend(0, 2, 2, 4), -3);
        CHECK.due("moveBend that turns back", x.moveBend(0, 2, 3, 1), -3);
        same(x, BENT);
        CHECK.due("moveBend that turns by two", x.moveBend(0, 2, 5, 7), 0);
        CHECK.due("length", x.line(0, 3), 10);
        CHECK.due("undo()", x.undo(), 0);
        same(x, BENT);
        CHECK.due("moveBend of the first point", x.moveBend(0, 0, 0, 1), 0);
        CHECK.due("setup", Check.setup(x), HEAD + "line a size 2 stops 3 at 0 1 at 5 1 at 8 4;");

        String straight = HEAD + "line a size 1 stops 5 at 0 0 at 4 0;";
        x = Check.of(straight);
        CHECK.due("moveBend that is too short", x.moveBend(0, 1, 3, 0), -4);
        CHECK.due("moveBend that is crooked and short", x.moveBend(0, 1, 2, 1), -3);
        same(x, straight);
        CHECK.due("moveBend that is as long", x.moveBend(0, 1, 4, 4), 0);
    }

    private static void insert() {
        LineDiagram x = Check.of(BENT);
        CHECK.due("insert(1, 0, 0, 1)", x.insert(1, 0, 0, 1), -1);
        CHECK.due("insert(-1, 0, 0, 1)", x.insert(-1, 0, 0, 1), -1);
        CHECK.due("insert(0, -1, 0, 1)", x.insert(0, -1, 0, 1), -1);
        CHECK.due("insert(0, 4, 9, 5)", x.insert(0, 4, 9, 5), -1);
        CHECK.due("insert(0, 0, 12, 1)", x.insert(0, 0, 12, 1), -1);
        CHECK.due("insert(0, 0, 0, 8)", x.insert(0, 0, 0, 8), -1);
        CHECK.due("insert upon the point ahead", x.insert(0, 1, 1, 1), -3);
        CHECK.due("insert off the eighths", x.insert(0, 1, 2, 3), -3);
        CHECK.due("insert that turns too sharply", x.insert(0, 3, 5, 4), -3);
        same(x, BENT);
        CHECK.due("insert between", x.insert(0, 1, 3, 1), 0);
        CHECK.due("insert at the end", x.insert(0, 4, 8, 6), 0);
        CHECK.due("insert at the beginning", x.insert(0, 0, 0, 0), 0);
        CHECK.due("setup", Check.setup(x), HEAD + "line a size 2 stops 3 at 0 0 at 1 1 at 3 1 at 5 1 at 8 4 at 8 6;");
        CHECK.due("bends", x.line(0, 4), 3);

        String ten = HEAD + "line a size 1 stops 2 at 0 0 at 1 0 at 2 0 at 3 0 at 4 0 at 5 0 at 6 0 at 7 0 at 8 0 at 10 0;";
        x = Check.of(ten);
        CHECK.due("insert of an eleventh point", x.insert(0, 10, 11, 0), -2);
        CHECK.due("insert of a crooked eleventh point", x.insert(0, 3, 11, 7), -2);
        CHECK.due("insert(0, 11, 11, 0)", x.insert(0, 11, 11, 0), -1);
        same(x, ten);
    }

    private static void removePoint() {
        LineDiagram x = Check.of(BENT);
        CHECK.due("removePoint(1, 0)", x.removePoint(1, 0), -1);
        CHECK.due("removePoint(0, -1)", x.removePoint(0, -1), -1);
        CHECK.due("removePoint(0, 3)", x.removePoint(0, 3), -1);
        CHECK.due("removePoint of the bend", x.removePoint(0, 1), -3);
        same(x, BENT);
        CHECK.due("removePoint of the first", x.removePoint(0, 0), 0);
        CHECK.due("setup", Check.setup(x), HEAD + "line a size 2 stops 3 at 5 1 at 8 4;");
        CHECK.due("removePoint of one of two", x.removePoint(0, 0), -2);
        CHECK.due("removePoint(0, 2)", x.removePoint(0, 2), -1);

        String back = "board 12 8 turn 2;line a size 1 stops 6 at 2 2 at 6 2 at 6 4 at 4 4 at 2 4;";
        x = Check.of(back);
        CHECK.due("removePoint that turns too sharply", x.removePoint(0, 2), -3);
        CHECK.due("removePoint of the last", x.removePoint(0, 4), 0);
        CHECK.due("removePoint of the last again", x.removePoint(0, 3), 0);
        CHECK.due("removePoint that is too short", x.removePoint(0, 2), -4);
        CHECK.due("undo()", x.undo(), 1);
        CHECK.due("undo()", x.undo(), 0);
        same(x, back);
        x = Check.of("board 9 9 turn 2;line a size 1 stops 8 at 2 2 at 4 2 at 4 5 at 1 5;");
        CHECK.due("removePoint crooked ahead of short", x.removePoint(0, 1), -3);
        x = Check.of("board 9 9 turn 2;line a size 1 stops 9 at 2 2 at 4 2 at 4 4 at 2 4 at 2 2;");
        CHECK.due("removePoint of the last of a loop", x.removePoint(0, 4), -4);
        CHECK.due("removePoint within a loop", x.removePoint(0, 2), -3);
    }

    private static void removePointOfTen() {
        String points = " at 0 0 at 1 0 at 2 0 at 3 0 at 4 0 at 5 0 at 6 0 at 7 0 at 8 0";
        LineDiagram x = Check.of(HEAD + "line a size 1 stops 2" + points + " at 10 0;");
        CHECK.due("removePoint of the tenth", x.removePoint(0, 9), 0);
        CHECK.due("setup", Check.setup(x), HEAD + "line a size 1 stops 2" + points + ";");
        CHECK.due("undo()", x.undo(), 0);
        CHECK.due("removePoint of the first of ten", x.removePoint(0, 0), 0);
        CHECK.due("setup", Check.setup(x), HEAD + "line a size 1 stops 2" + points.substring(7) + " at 10 0;");
    }

    private static void reverse() {
        LineDiagram x = Check.of(BENT);
        CHECK.due("reverse(-1)", x.reverse(-1), -1);
        CHECK.due("reverse(1)", x.reverse(1), -1);
        same(x, BENT);
        // stations at 0, 3 and 7 of 7 steps, so the one between comes elsewhere
        CHECK.due("label(0, 1, 6)", x.label(0, 1, 6), 3);
        CHECK.due("reverse(0)", x.reverse(0), 1);
        CHECK.due("setup", Check.setup(x), HEAD + "line a size 2 stops 3 at 8 4 at 5 1 at 1 1;");
        CHECK.due("station(0, 1, 0)", x.station(0, 1, 0), 5);
        CHECK.due("reverse(0)", x.reverse(0), 0);
        CHECK.due("setup", Check.setup(x), BENT);
        CHECK.due("undo()", x.undo(), 2);

        x = Check.of(HEAD + "line a size 1 stops 2 at 1 2 at 9 2;");
        CHECK.due("label(0, 0, 1)", x.label(0, 0, 1), 1);
        CHECK.due("reverse that makes a label too long", x.reverse(0), 1);
    }

    private static void setStops() {
        LineDiagram x = Check.of(BENT);
        CHECK.due("setStops(1, 2)", x.setStops(1, 2), -1);
        CHECK.due("setStops(0, 1)", x.setStops(0, 1), -1);
        CHECK.due("setStops(0, 21)", x.setStops(0, 21), -1);
        CHECK.due("setStops(0, 3)", x.setStops(0, 3), -2);
        CHECK.due("setStops(0, 9)", x.setStops(0, 9), -4);
        CHECK.due("setStops(0, 20)", x.setStops(0, 20), -4);
        same(x, BENT);
        CHECK.due("setStops(0, 8)", x.setStops(0, 8), 0);
        CHECK.due("places", x.value(5), 8);
        // that of (4, 1) is hemmed in by the labels of the three places ahead
        CHECK.due("labelAll()", x.labelAll(), 7);
        CHECK.due("setStops(0, 2)", x.setStops(0, 2), 5);
        CHECK.due("labels", x.value(6), 2);
    }

    private static void setSize() {
        LineDiagram x = Check.of(BENT);
        CHECK.due("setSize(1, 2)", x.setSize(1, 2), -1);
        CHECK.due("setSize(0, 0)", x.setSize(0, 0), -1);
        CHECK.due("setSize(0, 11)", x.setSize(0, 11), -1);
        CHECK.due("setSize(0, 2)", x.setSize(0, 2), -2);
        same(x, BENT);
        CHECK.due("label(0, 0, 2)", x.label(0, 0, 2), 2);
        CHECK.due("setSize(0, 10)", x.setSize(0, 10), 0);
        CHECK.due("cells of labels", x.value(8), 10);
        CHECK.due("setSize(0, 1)", x.setSize(0, 1), 0);
        CHECK.due("cells of labels", x.value(8), 1);
        CHECK.due("label(0, 2, 1)", x.label(0, 2, 1), 3);
        CHECK.due("setSize(0, 7): a label of 9 leftwards from column 8", x.setSize(0, 7), 1);
        CHECK.due("position(0, 0)", x.position(0, 0), 2);
        CHECK.due("position(0, 2)", x.position(0, 2), -2);
    }

    private static void labelsUnderLines() {
        LineDiagram x = Check.of(HEAD + "line a size 2 stops 2 at 1 2 at 7 2;line b size 1 stops 2 at 0 5 at 0 1;");
        CHECK.due("label(0, 0, 2)", x.label(0, 0, 2), 2);
        CHECK.due("label(0, 1, 6)", x.label(0, 1, 6), 3);
        CHECK.due("moveBend upon both labels", x.moveBend(1, 0, 9, 1), 2);
        CHECK.due("labels", x.value(6), 0);
        CHECK.due("undo()", x.undo(), 2);
        CHECK.due("labels", x.value(6), 2);
        CHECK.due("moveBend upon one label", x.moveBend(1, 0, 3, 1), 1);
        CHECK.due("position(0, 0)", x.position(0, 0), -2);
        CHECK.due("position(0, 1)", x.position(0, 1), 6);
        CHECK.due("undo()", x.undo(), 2);
        CHECK.due("insert upon one label", x.insert(1, 2, 3, 1), 1);
        CHECK.due("labelAt the other one behind that", x.labelAt(6, 1), 64 * 2 + 7);
        CHECK.due("why upon it by its own place", x.why(0, 1, 6), 0);
    }

    private static void labelsWithoutPlaces() {
        LineDiagram x = Check.of(HEAD + "line a size 2 stops 2 at 1 2 at 7 2;");
        x.labelAll();
        CHECK.due("moveBend of a place with a label", x.moveBend(0, 1, 9, 2), 1);
        CHECK.due("position(0, 0)", x.position(0, 0), 2);
        CHECK.due("position(0, 1)", x.position(0, 1), -2);
        // the old place is a cell of the line still, and a place again behind setStops()
        CHECK.due("at(7, 2)", x.at(7, 2), 2);
        CHECK.due("setStops that goes by the old place", x.setStops(0, 9), 0);
        CHECK.due("labels", x.value(6), 1);
    }

    private static void labelsThatGrow() {
        String text = HEAD + "line a size 1 stops 2 at 1 3 at 1 6;line b size 1 stops 2 at 4 3 at 4 6;";
        LineDiagram x = Check.of(text);
        CHECK.due("label(0, 0, 2)", x.label(0, 0, 2), 1);
        CHECK.due("label(1, 0, 4)", x.label(1, 0, 4), 1);
        CHECK.due("setSize(0, 2): the first label grows", x.setSize(0, 2), 1);
        CHECK.due("position(0, 0)", x.position(0, 0), 2);
        CHECK.due("position(1, 0)", x.position(1, 0), -2);
        x.undo();
        CHECK.due("setSize(1, 2): the second label grows", x.setSize(1, 2), 1);
        CHECK.due("position(0, 0)", x.position(0, 0), 2);
        CHECK.due("position(1, 0)", x.position(1, 0), -2);

        // three labels in a row: when the one between is lost, the third one stays
        x = Check.of(HEAD + "line a size 1 stops 2 at 1 3 at 1 6;line b size 1 stops 2 at 4 3 at 4 6;line c size 1 stops 2 at 6 3 at 6 6;");
        CHECK.due("label(0, 0, 2)", x.label(0, 0, 2), 1);
        CHECK.due("label(1, 0, 6)", x.label(1, 0, 6), 1);
        CHECK.due("label(2, 0, 4)", x.label(2, 0, 4), 1);
        CHECK.due("setSize(0, 3)", x.setSize(0, 3), 1);
        CHECK.due("position(1, 0)", x.position(1, 0), -2);
        CHECK.due("position(2, 0)", x.position(2, 0), 4);
        // a label upwards of another one counts first, though its column is greater
        x = Check.of("board 12 8 turn 2;line a size 1 stops 2 at 2 4 at 2 7;line b size 1 stops 2 at 7 2 at 9 2;");
        CHECK.due("label(0, 0, 2)", x.label(0, 0, 2), 1);
        CHECK.due("label(1, 0, 5)", x.label(1, 0, 5), 1);
        CHECK.due("setSize(0, 4): columns 3 to 6 of row 3", x.setSize(0, 4), 1);
        CHECK.due("position(0, 0)", x.position(0, 0), -2);
        CHECK.due("position(1, 0)", x.position(1, 0), 5);
    }
}
