/**
 * One long run over most of the class. Its calls are those of a shared test that has been withdrawn;
 * each answer here has been worked out anew from the document, as the sketches ahead of the parts tell.
 */
public final class LongRunTest {
    private static final Check CHECK = new Check("LongRunTest");

    public static void main(String[] args) {
        LineDiagram x = new LineDiagram();
        newObject(x);
        setup(x);
        lines(x);
        labels(x);
        changes(x);
        CHECK.end();
    }

    private static void due(String call, double got, double want) {
        CHECK.due(call, got, want);
    }

    private static void newObject(LineDiagram x) {
        due("value(0)", x.value(0), 20);
        due("value(1)", x.value(1), 12);
        due("value(2)", x.value(2), 2);
        due("value(3)", x.value(3), 0);
        due("value(5)", x.value(5), 0);
        due("value(12)", x.value(12), -1);
        due("setupLength()", x.setupLength(), 19);
        due("setupByte(0)", x.setupByte(0), 98);
        due("pictureLength()", x.pictureLength(), 252);
        due("pictureByte(0)", x.pictureByte(0), 46);
        due("line(0, 0)", x.line(0, 0), -1);
        due("crossing(0)", x.crossing(0), -2);
        due("crossing(-1)", x.crossing(-1), -1);
        due("crookedest()", x.crookedest(), -2);
        due("nearest(0, 0)", x.nearest(0, 0), -2);
        due("nearest(20, 0)", x.nearest(20, 0), -1);
        due("labelled()", x.labelled(), 0);
        due("meanGap(0)", x.meanGap(0), -1);
        due("at(0, 0)", x.at(0, 0), 0);
        due("at(20, 0)", x.at(20, 0), -1);
        due("labelAt(0, 0)", x.labelAt(0, 0), -2);
        due("stuck()", x.stuck(), 0);
        due("couldLabel()", x.couldLabel(), 0);
        due("labelAll()", x.labelAll(), 0);
        due("undo()", x.undo(), 0);
        due("undo()", x.undo(), -1);
        due("restore(0)", x.restore(0), -2);
        due("errorPosition()", x.errorPosition(), -2);
    }

    /**
     * The tape says: board 14 8 turn 2;line red size 2 stops 3 at 1 1 at 5 1 at 8 4;line blue size 1
     * stops 4 at 6 0 at 6 4 at 4 6;line green size 3 stops 2 at 9 2 at 6 5; (149 bytes) and eleven spaces.
     */
    private static void setup(LineDiagram x) {
        due("append(1651466610, 1679831348, 540549236, 1970433568, 842755177)", x.append(1651466610, 1679831348, 540549236, 1970433568, 842755177), 20);
        due("append(1852121202, 1701060723, 1769628960, 840987508, 1869640480)", x.append(1852121202, 1701060723, 1769628960, 840987508, 1869640480), 40);
        due("append(857760116, 540090417, 543257632, 891302176, 1635000376)", x.append(857760116, 540090417, 543257632, 891302176, 1635000376), 60);
        due("append(540293996, 1768842528, 1651275109, 544434554, 1696608544)", x.append(540293996, 1768842528, 1651275109, 544434554, 1696608544), 80);
        due("append(1937010544, 1931490336, 1635000374, 540024929, 1948268064)", x.append(1937010544, 1931490336, 1635000374, 540024929, 1948268064), 100);
        due("append(874537332, 540287030, 996960622, 1696622450, 1701146144)", x.append(874537332, 540287030, 996960622, 1696622450, 1701146144), 120);
        due("append(1936292453, 540221555, 1953460339, 540156001, 1948268832)", x.append(1936292453, 540221555, 1953460339, 540156001, 1948268832), 140);
        due("append(840982900, 540418101, 991961120, 538976288, 538976288)", x.append(840982900, 540418101, 991961120, 538976288, 538976288), 160);
        due("truncate(11)", x.truncate(11), 149);
        due("load()", x.load(), 3);
        due("setupLength()", x.setupLength(), 149);
        due("setupByte(148)", x.setupByte(148), 59);
    }

    /**
     * red: 7 steps, stations behind 0, 3 and 7 of them at (1, 1), (4, 1), (8, 4) with LONG 2, 3, 4;
     * blue: 6 steps, stations behind 0, 2, 4 and 6 at (6, 0), (6, 2), (6, 4), (4, 6) with 1, 2, 3, 1;
     * green: 3 steps, stations behind 0 and 3 at (9, 2), (6, 5) with 3, 4. red and blue share (6, 2),
     * a place of blue; red from (7, 3) to (8, 4) and green from (8, 3) to (7, 4) cross between cells.
     */
    private static void lines(LineDiagram x) {
        due("value(3)", x.value(3), 3);
        due("value(4)", x.value(4), 9);
        due("value(5)", x.value(5), 9);
        due("value(6)", x.value(6), 0);
        due("value(7)", x.value(7), 18);
        due("value(9)", x.value(9), 0);
        due("value(10)", x.value(10), 1);
        due("value(11)", x.value(11), 0);
        due("line(0, 0)", x.line(0, 0), 3);
        due("line(0, 3)", x.line(0, 3), 7);
        due("line(0, 4)", x.line(0, 4), 1);
        due("line(0, 5)", x.line(0, 5), 1);
        due("line(0, 6)", x.line(0, 6), 1);
        due("line(0, 7)", x.line(0, 7), 3);
        due("line(0, 8)", x.line(0, 8), 1);
        due("line(2, 8)", x.line(2, 8), 0);
        due("line(1, 7)", x.line(1, 7), 2);
        due("turn(0, 1)", x.turn(0, 1), 1);
        due("turn(0, 0)", x.turn(0, 0), -2);
        due("turn(0, 3)", x.turn(0, 3), -1);
        due("point(0, 1, true)", x.point(0, 1, true), 5);
        due("point(0, 2, false)", x.point(0, 2, false), 4);
        due("station(0, 1, 0)", x.station(0, 1, 0), 4);
        due("station(0, 1, 1)", x.station(0, 1, 1), 1);
        due("station(0, 1, 2)", x.station(0, 1, 2), 3);
        due("station(0, 1, 3)", x.station(0, 1, 3), 0);
        due("station(0, 1, 4)", x.station(0, 1, 4), 3);
        due("station(0, 1, 5)", x.station(0, 1, 5), 1);
        due("station(0, 2, 3)", x.station(0, 2, 3), 1);
        due("station(1, 3, 3)", x.station(1, 3, 3), 3);
        due("station(0, 3, 0)", x.station(0, 3, 0), -1);
        due("uneven(0)", x.uneven(0), 1);
        due("uneven(1)", x.uneven(1), 0);
        due("meanGap(0)", x.meanGap(0), 3.5);
        due("both(0, 1, 0)", x.both(0, 1, 0), 1);
        due("both(0, 1, 1)", x.both(0, 1, 1), 0);
        due("both(0, 1, 2)", x.both(0, 1, 2), 0);
        due("both(0, 2, 3)", x.both(0, 2, 3), 1);
        due("both(0, 0, 0)", x.both(0, 0, 0), -1);
        due("crossing(0)", x.crossing(0), -2);
        due("linesAt(6, 2)", x.linesAt(6, 2), 3);
        due("at(6, 2)", x.at(6, 2), 3);
        due("at(5, 1)", x.at(5, 1), 2);
        due("at(0, 0)", x.at(0, 0), 0);
        due("rides(0, 0, 0, 2)", x.rides(0, 0, 0, 2), 2);
        due("rides(0, 0, 1, 0)", x.rides(0, 0, 1, 0), -2);
        due("changes(0, 0, 1, 0)", x.changes(0, 0, 1, 0), -2);
        due("changes(0, 0, 0, 2)", x.changes(0, 0, 0, 2), 0);
        due("crookedest()", x.crookedest(), 0);
        due("nearest(0, 0)", x.nearest(0, 0), 65);
        due("nearest(13, 7)", x.nearest(13, 7), 137);
    }

    /**
     * What labelAll() brings, by rows and columns: (6, 0) to (7, 0); (4, 1) below left to (1..3, 2), as
     * lines or the label of (1, 1) are in the other ones ahead; (6, 2) to (7..8, 2); (9, 2) to (10..12, 2);
     * (6, 4) leftwards to (3..5, 4), as (7, 4) is green; (8, 4) to (9..12, 4); (6, 5) to (7..10, 5);
     * (4, 6) to (5, 6): with (2..3, 0) of (1, 1) these are 23 cells.
     */
    private static void labels(LineDiagram x) {
        due("why(0, 0, 0)", x.why(0, 0, 0), -6);
        due("why(0, 0, 1)", x.why(0, 0, 1), -5);
        due("why(0, 0, 2)", x.why(0, 0, 2), 0);
        due("why(0, 0, 8)", x.why(0, 0, 8), -1);
        due("free(0, 0)", x.free(0, 0), 204);
        due("position(0, 0)", x.position(0, 0), -2);
        due("label(0, 0, 2)", x.label(0, 0, 2), 2);
        due("label(0, 0, 2)", x.label(0, 0, 2), -2);
        due("label(0, 0, 0)", x.label(0, 0, 0), -6);
        due("position(0, 0)", x.position(0, 0), 2);
        due("value(6)", x.value(6), 1);
        due("value(8)", x.value(8), 2);
        due("labelAt(2, 0)", x.labelAt(2, 0), 65);
        due("at(2, 0)", x.at(2, 0), 1);
        due("label(0, 1, 4)", x.label(0, 1, 4), -7);
        due("couldLabel()", x.couldLabel(), 8);
        due("labelAll()", x.labelAll(), 8);
        due("value(6)", x.value(6), 9);
        due("value(8)", x.value(8), 23);
        due("labelled()", x.labelled(), 1);
        due("stuck()", x.stuck(), 0);
        due("position(0, 1)", x.position(0, 1), 5);
        due("position(1, 2)", x.position(1, 2), 1);
        due("dodge(0, 0)", x.dodge(0, 0), -2);
        due("unlabel(1, 0)", x.unlabel(1, 0), 0);
        due("unlabel(1, 0)", x.unlabel(1, 0), -2);
        due("position(1, 0)", x.position(1, 0), -2);
    }

    /**
     * red to (9, 5): 8 steps, stations at (1, 1), (5, 1), (9, 5); the labels of (4, 1) and (8, 4) lose
     * their places, that of (6, 5) lies on (9, 5). With 9 stops red has a station on each of its cells:
     * (6, 2) is its station 5, of LONG 2 + 2, and that label would come to (9, 2), a cell of green.
     * With SIZE 10 blue's labels of (6, 4) and (4, 6) go off the board.
     */
    private static void changes(LineDiagram x) {
        due("ifMoved(0, 1, 6, 1, 0)", x.ifMoved(0, 1, 6, 1, 0), -3);
        due("bestMove(0, 1)", x.bestMove(0, 1), -2);
        due("ifMoved(0, 2, 9, 5, 3)", x.ifMoved(0, 2, 9, 5, 3), 8);
        due("ifMoved(0, 2, 9, 5, 0)", x.ifMoved(0, 2, 9, 5, 0), 3);
        due("ifMoved(0, 2, 9, 5, 1)", x.ifMoved(0, 2, 9, 5, 1), 0);
        due("ifMoved(0, 2, 9, 5, 2)", x.ifMoved(0, 2, 9, 5, 2), 1);
        due("ifMoved(0, 2, 8, 4, 0)", x.ifMoved(0, 2, 8, 4, 0), -2);
        due("ifMoved(0, 2, 9, 5, 4)", x.ifMoved(0, 2, 9, 5, 4), -1);
        due("moveBend(0, 2, 9, 5)", x.moveBend(0, 2, 9, 5), 3);
        due("value(6)", x.value(6), 5);
        due("station(0, 2, 0)", x.station(0, 2, 0), 9);
        due("position(2, 1)", x.position(2, 1), -2);
        due("free(2, 1)", x.free(2, 1), 8);
        due("dodge(2, 1)", x.dodge(2, 1), 3);
        due("position(2, 1)", x.position(2, 1), 3);
        due("undo()", x.undo(), 4);
        due("position(2, 1)", x.position(2, 1), -2);
        due("setStops(0, 10)", x.setStops(0, 10), -4);
        due("setStops(0, 9)", x.setStops(0, 9), 1);
        due("value(5)", x.value(5), 14);
        due("both(0, 1, 1)", x.both(0, 1, 1), 1);
        due("rides(0, 0, 1, 0)", x.rides(0, 0, 1, 0), 6);
        due("changes(0, 0, 1, 0)", x.changes(0, 0, 1, 0), 1);
        due("station(0, 5, 5)", x.station(0, 5, 5), 2);
        due("setSize(0, 2)", x.setSize(0, 2), -2);
        due("setSize(0, 11)", x.setSize(0, 11), -1);
        due("insert(0, 1, 3, 1)", x.insert(0, 1, 3, 1), 0);
        due("line(0, 0)", x.line(0, 0), 4);
        due("line(0, 4)", x.line(0, 4), 1);
        due("removePoint(0, 1)", x.removePoint(0, 1), 0);
        due("reverse(1)", x.reverse(1), 0);
        due("station(1, 0, 1)", x.station(1, 0, 1), 6);
        due("removePoint(2, 0)", x.removePoint(2, 0), -2);
        due("moveBend(2, 0, 9, 2)", x.moveBend(2, 0, 9, 2), -2);
        due("moveBend(2, 0, 9, 3)", x.moveBend(2, 0, 9, 3), -3);
        due("keep(0)", x.keep(0), 4);
        due("setSize(1, 10)", x.setSize(1, 10), 2);
        due("restore(0)", x.restore(0), 4);
        due("undo()", x.undo(), 7);
        due("restore(1)", x.restore(1), -2);
        due("named(253924800)", x.named(253924800), 2);
        due("named(485954560)", x.named(485954560), -2);
    }
}
