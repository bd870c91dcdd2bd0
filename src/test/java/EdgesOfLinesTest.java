/** The sentences of promises 19 to 32 that name an edge: a test for each. */
public final class EdgesOfLinesTest {
    private static final Check CHECK = new Check("EdgesOfLinesTest");
    private static final String HEAD = "board 12 8 turn 2;";
    /** Seven steps, with stations at (1, 1), (4, 1) and (8, 4) of LONG 2, 3 and 4. */
    private static final String BENT = HEAD + "line a size 2 stops 3 at 1 1 at 5 1 at 8 4;";
    /** a and c cross at (1, 1), b and c at (6, 1), a and b between cells from (3, 3) to (4, 4). */
    private static final String STAR = "board 12 8 turn 3;line a size 1 stops 3 at 0 0 at 6 6;"
        + "line b size 2 stops 2 at 7 0 at 0 7;line c size 3 stops 2 at 0 1 at 8 1;";
    private static final String LOOP = HEAD + "line a size 2 stops 5 at 1 1 at 5 1 at 5 5 at 1 5 at 1 1;";
    private static final int LEAST = Integer.MIN_VALUE;
    private static final int MOST = Integer.MAX_VALUE;

    public static void main(String[] args) throws Exception {
        CHECK.eachSentence(EdgesOfLinesTest.class);
        CHECK.end();
    }

    private static void due(String call, double got, double want) {
        CHECK.due(call, got, want);
    }

    // ---- promise 19

    @Says(in = "Promise 19", words = "0 WIDE, 1 HIGH, 2 TURN, 3 the number of lines, 4 of stations of all lines, 5 of places, 6 of labels, 7 of cells of lines (each once), 8 of cells of labels")
    private static void numbersOfAll() {
        LineDiagram x = Check.of(STAR);
        int[] star = {12, 8, 3, 3, 7, 7, 0, 7 + 8 + 9 - 2, 0, 2, 1, 0};
        for (int i = 0; i < star.length; i++) {
            due("value(" + i + ")", x.value(i), star[i]);
        }
        x = Check.of(LOOP);
        int[] loop = {12, 8, 2, 1, 5, 4, 0, 16, 0, 0, 0, 0};
        for (int i = 0; i < loop.length; i++) {
            due("value(" + i + ") of a loop", x.value(i), loop[i]);
        }
        due("label", x.label(0, 1, 0), 3);
        due("label", x.label(0, 0, 2), 3);
        due("value(6) with two labels", x.value(6), 2);
        due("value(8) with two labels", x.value(8), 6);
        StringBuilder eight = new StringBuilder(HEAD);
        for (int i = 0; i < 8; i++) {
            eight.append("line ").append((char) ('a' + i)).append(" size 1 stops ").append(i + 2).append(" at 0 ").append(i).append(" at 11 ").append(i).append(";");
        }
        due("value(4) of eight lines", Check.of(eight.toString()).value(4), 2 + 3 + 4 + 5 + 6 + 7 + 8 + 9);
        x = Check.of("board 4 4 turn 2;");
        for (int i = 3; i < 12; i++) {
            due("value(" + i + ") without lines", x.value(i), 0);
        }
    }

    @Says(in = "Promise 19", words = "7 of cells of lines (each once)")
    private static void cellsOfLinesOnce() {
        due("two lines on the same cells", Check.of(HEAD + "line a size 1 stops 2 at 1 1 at 5 1;line b size 1 stops 2 at 5 1 at 1 1;").value(7), 5);
        due("a line that goes over a run again", Check.of("board 9 9 turn 2;line a size 1 stops 2 at 1 1 at 4 1 at 4 4 at 1 4 at 1 1 at 4 1;").value(7), 12);
        due("lines that cross", Check.of(STAR).value(7), 22);
        // the four corners of the largest board
        due("an edge all around", Check.of("board 40 40 turn 2;line a size 1 stops 2 at 0 0 at 39 0 at 39 39 at 0 39 at 0 0;").value(7), 156);
    }

    @Says(in = "Promise 19", words = "9 of crossings at cells (a cell counts once)")
    private static void crossingsOnce() {
        String three = "board 9 9 turn 2;line a size 1 stops 2 at 0 4 at 8 4;line b size 1 stops 2 at 4 0 at 4 8;line c size 1 stops 2 at 0 0 at 8 8;";
        due("three lines at one cell", Check.of(three).value(9), 1);
        due("four lines at one cell", Check.of(three + "line d size 1 stops 2 at 8 0 at 0 8;").value(9), 1);
        due("no crossing", Check.of(BENT).value(9), 0);
    }

    @Says(in = "Promise 19", words = "10 of crossings between cells, 11 of steps side by side (in both each pair of lines counts once where it is so)")
    private static void pairsOnce() {
        String falling = " size 1 stops 2 at 1 1 at 4 4;", rising = " size 1 stops 2 at 4 1 at 1 4;", bow = " size 1 stops 2 at 1 1 at 4 4 at 4 1 at 1 4;";
        String head = "board 9 9 turn 3;";
        due("one and one", Check.of(head + "line a" + falling + "line b" + rising).value(10), 1);
        due("two and one", Check.of(head + "line a" + falling + "line b" + falling + "line c" + rising).value(10), 2);
        due("two and two", Check.of(head + "line a" + falling + "line b" + falling + "line c" + rising + "line d" + rising).value(10), 4);
        due("a bow and one", Check.of(head + "line a" + bow + "line b" + rising).value(10), 1);
        due("two bows", Check.of(head + "line a" + bow + "line b" + bow).value(10), 1);
        due("three bows", Check.of(head + "line a" + bow + "line b" + bow + "line c" + bow).value(10), 3);
        due("two bows and one", Check.of(head + "line a" + bow + "line b" + bow + "line c" + falling).value(10), 3);
        due("two lines side by side", Check.of(head + "line a" + falling + "line b" + falling).value(11), 3);
        due("three lines side by side", Check.of(head + "line a" + falling + "line b" + falling + "line c" + falling).value(11), 9);
        // eight lines that go from (5, 5) to the right, right and down, down, and left and down, and from (6, 6) to (5, 6)
        StringBuilder eight = new StringBuilder(head);
        for (char name = 'a'; name < 'i'; name++) {
            eight.append("line ").append(name).append(" size 1 stops 2 at 6 5 at 5 5 at 6 6 at 5 6 at 5 5 at 4 6;");
        }
        due("eight lines side by side in all ways", Check.of(eight.toString()).value(11), 5 * 28);
        due("eight lines that cross none", Check.of(eight.toString()).value(10), 0);
        String twice = head + "line a size 1 stops 2 at 1 1 at 4 1 at 4 4 at 1 4 at 1 1 at 4 1;";
        due("a line that goes over a step again", Check.of(twice).value(11), 0);
        due("it, and another line", Check.of(twice + "line b size 1 stops 2 at 0 1 at 3 1;").value(11), 2);
    }

    @Says(in = "Promise 19", words = "INVALID for any other what")
    private static void otherValues() {
        LineDiagram x = Check.of(STAR);
        for (int what : new int[] {-1, 12, LEAST, MOST}) {
            due("value(" + what + ")", x.value(what), -1);
        }
        due("value(11)", x.value(11), 0);
    }

    // ---- promise 20

    @Says(in = "Promise 20", words = "0 its points, 1 STOPS, 2 SIZE, 3 its length")
    private static void numbersOfALine() {
        LineDiagram x = Check.of("board 40 8 turn 2;line a size 10 stops 20 at 0 0 at 39 0;line b size 1 stops 2 at 0 1 at 1 1;"
            + "line c size 3 stops 4 at 0 2 at 1 2 at 2 2 at 3 2 at 4 2 at 5 2 at 6 2 at 7 2 at 8 2 at 9 3;");
        int[][] numbers = {{2, 20, 10, 39}, {2, 2, 1, 1}, {10, 4, 3, 9}};
        for (int i = 0; i < 3; i++) {
            for (int what = 0; what < 4; what++) {
                due("line(" + i + ", " + what + ")", x.line(i, what), numbers[i][what]);
            }
        }
    }

    @Says(in = "Promise 20", words = "4 its bends (points with a turn that is not 0), 5 its greatest turn, 6 the sum of its turns")
    private static void bends() {
        LineDiagram x = Check.of("board 12 8 turn 3;line z size 10 stops 4 at 0 0 at 2 0 at 4 0 at 4 3 at 1 0;line s size 1 stops 2 at 0 7 at 9 7;");
        // turns of 0, 2 and 3
        due("bends", x.line(0, 4), 2);
        due("greatest turn", x.line(0, 5), 3);
        due("sum of the turns", x.line(0, 6), 5);
        int[] loop = {3, 2, 6}, bent = {1, 1, 1};
        for (int what = 4; what < 7; what++) {
            due("line(0, " + what + ") of a loop", Check.of(LOOP).line(0, what), loop[what - 4]);
            due("line(0, " + what + ") of one bend", Check.of(BENT).line(0, what), bent[what - 4]);
        }
        for (int what = 4; what < 7; what++) {
            due("line(1, " + what + ") of two points", x.line(1, what), 0);
        }
        x.insert(1, 1, 4, 7);
        for (int what = 4; what < 7; what++) {
            due("line(1, " + what + ") of a point that is no bend", x.line(1, what), 0);
        }
    }

    @Says(in = "Promise 20", words = "7 the number of its slanting steps")
    private static void slantingSteps() {
        LineDiagram x = Check.of("board 12 8 turn 3;line a size 1 stops 2 at 0 7 at 4 7;line b size 1 stops 2 at 1 0 at 1 6;line c size 1 stops 2 at 0 0 at 6 6;"
            + "line d size 1 stops 2 at 2 2 at 4 2 at 6 4 at 6 6 at 5 7 at 3 5 at 5 3;");
        int[] slanting = {0, 0, 6, 2 + 1 + 2 + 2};
        for (int i = 0; i < 4; i++) {
            due("line(" + i + ", 7)", x.line(i, 7), slanting[i]);
        }
    }

    @Says(in = "Promise 20", words = "8 how many other lines it meets (has a cell with)")
    private static void linesThatItMeets() {
        LineDiagram x = Check.of(STAR);
        due("a, which meets c, and b only between cells", x.line(0, 8), 1);
        due("b, which meets c", x.line(1, 8), 1);
        due("c, which meets both", x.line(2, 8), 2);
        due("a line alone", Check.of(LOOP).line(0, 8), 0);
        due("two that meet at a place", Check.of("board 4 4 turn 2;line a size 1 stops 2 at 0 0 at 0 3;line b size 1 stops 2 at 0 0 at 3 0;").line(0, 8), 1);
        due("two that meet in the last cell", Check.of("board 40 40 turn 2;line a size 1 stops 2 at 39 39 at 0 39;line b size 1 stops 2 at 39 39 at 39 0;").line(1, 8), 1);
        StringBuilder eight = new StringBuilder(HEAD);
        for (char name = 'a'; name < 'i'; name++) {
            eight.append("line ").append(name).append(" size 1 stops 2 at 1 1 at 5 1;");
        }
        due("the first of eight on the same cells", Check.of(eight.toString()).line(0, 8), 7);
        due("the last of eight on the same cells", Check.of(eight.toString()).line(7, 8), 7);
    }

    @Says(in = "Promise 20", words = "INVALID for an invalid argument")
    private static void invalidLine() {
        LineDiagram x = Check.of(STAR);
        for (int line : new int[] {-1, 3, 8, LEAST, MOST}) {
            for (int what = 0; what < 9; what++) {
                due("line(" + line + ", " + what + ")", x.line(line, what), -1);
            }
        }
        for (int what : new int[] {-1, 9, LEAST, MOST}) {
            due("line(0, " + what + ")", x.line(0, what), -1);
        }
        due("line(0, 0) without lines", new LineDiagram().line(0, 0), -1);
    }

    // ---- promise 21

    @Says(in = "Promise 21", words = "true for its column, false for its row")
    private static void columnsAndRows() {
        LineDiagram x = Check.of("board 40 40 turn 2;line a size 1 stops 2 at 0 0 at 0 39 at 39 39;");
        int[][] points = {{0, 0}, {0, 39}, {39, 39}};
        for (int i = 0; i < 3; i++) {
            due("point(0, " + i + ", true)", x.point(0, i, true), points[i][0]);
            due("point(0, " + i + ", false)", x.point(0, i, false), points[i][1]);
        }
    }

    @Says(in = "Promise 21", words = "INVALID for an invalid argument")
    private static void invalidPoint() {
        LineDiagram x = Check.of(BENT);
        int[][] wrong = {{-1, 0}, {1, 0}, {0, -1}, {0, 3}, {0, 10}, {LEAST, 0}, {MOST, 0}, {0, LEAST}, {0, MOST}};
        for (int[] w : wrong) {
            due("point(.., true)", x.point(w[0], w[1], true), -1);
            due("point(.., false)", x.point(w[0], w[1], false), -1);
        }
        due("point(0, 0, true) without lines", new LineDiagram().point(0, 0, true), -1);
    }

    // ---- promise 22

    @Says(in = "Promise 22", words = "Returns the turn there, 0 to 4")
    private static void turnsThere() {
        LineDiagram x = Check.of("board 12 8 turn 3;line a size 1 stops 2 at 0 0 at 2 0 at 4 0 at 6 2 at 6 4 at 4 2;");
        int[] turns = {-2, 0, 1, 1, 3, -2};
        for (int i = 0; i < turns.length; i++) {
            due("turn(0, " + i + ")", x.turn(0, i), turns[i]);
        }
        due("turn from way 7 to way 0", Check.of("board 9 9 turn 1;line a size 1 stops 2 at 0 4 at 2 2 at 4 2;").turn(0, 1), 1);
        due("turn from way 0 to way 7", Check.of("board 9 9 turn 1;line a size 1 stops 2 at 0 4 at 2 4 at 4 2;").turn(0, 1), 1);
        due("turn from way 1 to way 6", Check.of("board 9 9 turn 3;line a size 1 stops 2 at 0 2 at 2 4 at 2 0;").turn(0, 1), 3);
    }

    @Says(in = "Promise 22", words = "NOT_FOUND for its first and its last point")
    private static void turnsOfTheEnds() {
        LineDiagram x = Check.of(BENT + "line b size 1 stops 2 at 0 7 at 9 7;");
        due("turn of the first point", x.turn(0, 0), -2);
        due("turn of the bend", x.turn(0, 1), 1);
        due("turn of the last point", x.turn(0, 2), -2);
        due("turn of the first of two", x.turn(1, 0), -2);
        due("turn of the last of two", x.turn(1, 1), -2);
    }

    @Says(in = "Promise 22", words = "INVALID for an invalid argument")
    private static void invalidTurn() {
        LineDiagram x = Check.of(BENT);
        int[][] wrong = {{-1, 0}, {1, 0}, {0, -1}, {0, 3}, {0, 10}, {LEAST, 1}, {MOST, 1}, {0, LEAST}, {0, MOST}};
        for (int[] w : wrong) {
            due("turn", x.turn(w[0], w[1]), -1);
        }
        due("turn(0, 0) without lines", new LineDiagram().turn(0, 0), -1);
    }

    // ---- promise 23

    private static void station(LineDiagram x, int station, int... wanted) {
        for (int i = 0; i < wanted.length; i++) {
            due("station(0, " + station + ", " + i + ")", x.station(0, station, i), wanted[i]);
        }
    }

    @Says(in = "Promise 23", words = "0 its column, 1 its row, 2 the steps from the first point to it")
    private static void whereStationsAre() {
        LineDiagram x = Check.of(LOOP);
        station(x, 0, 1, 1, 0);
        station(x, 1, 5, 1, 4);
        station(x, 2, 5, 5, 8);
        station(x, 3, 1, 5, 12);
        station(x, 4, 1, 1, 16);
    }

    @Says(in = "Promise 23", words = "3 the way (0 to 7) of the step ahead of it (of the first one behind it)")
    private static void waysOfStations() {
        LineDiagram x = Check.of(LOOP);
        int[] ways = {0, 0, 2, 4, 6};
        for (int i = 0; i < 5; i++) {
            due("station(0, " + i + ", 3) at the bends", x.station(0, i, 3), ways[i]);
        }
        // seven steps, four before the bend
        x = Check.of(BENT.replace("stops 3", "stops 8"));
        for (int i = 0; i < 8; i++) {
            due("station(0, " + i + ", 3) of eight", x.station(0, i, 3), i < 5 ? 0 : 1);
        }
        // two stations, at the ends of four runs; then a third one in the second run
        x = Check.of("board 12 8 turn 3;line a size 1 stops 2 at 0 0 at 2 0 at 4 2 at 4 4 at 3 5;");
        due("station(0, 0, 3) of four runs", x.station(0, 0, 3), 0);
        due("station(0, 1, 3) of four runs", x.station(0, 1, 3), 3);
        x.setStops(0, 3);
        due("station(0, 1, 3) in the second run", x.station(0, 1, 3), 1);
        due("station(0, 2, 3) of four runs", x.station(0, 2, 3), 3);
        // the first station has the way behind it, the next one, a step on, that between both
        x = Check.of("board 9 9 turn 3;line a size 1 stops 4 at 4 4 at 3 3 at 4 3 at 3 4;");
        int[] each = {5, 5, 0, 3};
        for (int i = 0; i < 4; i++) {
            due("station(0, " + i + ", 3) of a step each", x.station(0, i, 3), each[i]);
        }
        x.reverse(0);
        int[] back = {7, 7, 4, 1};
        for (int i = 0; i < 4; i++) {
            due("station(0, " + i + ", 3) when it is turned round", x.station(0, i, 3), back[i]);
        }
    }

    @Says(in = "Promise 23", words = "4 its LONG, 5 how many stations its place has")
    private static void longsAndNumbers() {
        LineDiagram x = Check.of(LOOP + "line b size 9 stops 2 at 5 1 at 9 1;");
        int[] longs = {2, 3, 4, 2, 3}, many = {2, 2, 1, 1, 2};
        for (int i = 0; i < 5; i++) {
            due("station(0, " + i + ", 4)", x.station(0, i, 4), longs[i]);
            due("station(0, " + i + ", 5)", x.station(0, i, 5), many[i]);
        }
        due("station(1, 0, 4)", x.station(1, 0, 4), 9);
        due("station(1, 0, 5)", x.station(1, 0, 5), 2);
        due("station(1, 1, 5)", x.station(1, 1, 5), 1);
    }

    @Says(in = "Promise 23", words = "INVALID for an invalid argument")
    private static void invalidStation() {
        LineDiagram x = Check.of(BENT);
        int[][] wrong = {{-1, 0, 0}, {1, 0, 0}, {0, -1, 0}, {0, 3, 0}, {0, 20, 0}, {0, 0, -1}, {0, 0, 6},
            {LEAST, 0, 0}, {MOST, 0, 0}, {0, LEAST, 0}, {0, MOST, 0}, {0, 0, LEAST}, {0, 0, MOST}};
        for (int[] w : wrong) {
            due("station", x.station(w[0], w[1], w[2]), -1);
        }
        due("station(0, 0, 0) without lines", new LineDiagram().station(0, 0, 0), -1);
    }

    // ---- promise 24

    @Says(in = "Promise 24", words = "Returns 3 a place, 2 a cell of a line, 1 a cell of a label, 0 nothing of these")
    private static void whatIsOnACell() {
        LineDiagram x = Check.of(STAR);
        x.label(1, 0, 0);
        due("a place", x.at(3, 3), 3);
        due("a place of the end of a line", x.at(0, 0), 3);
        due("a cell of a line", x.at(4, 4), 2);
        due("a crossing", x.at(1, 1), 2);
        due("the cells of a label", x.at(8, 0) + x.at(9, 0), 2);
        due("a cell behind the label", x.at(10, 0), 0);
        due("the last cell", x.at(11, 7), 0);
        x = Check.of(HEAD + "line a size 2 stops 2 at 0 0 at 0 7;");
        x.label(0, 0, 0);
        due("a cell of the label of the first cell's place", x.at(2, 0), 1);
        due("value(8)", x.value(8), 2);
    }

    @Says(in = "Promise 24", words = "INVALID for an invalid argument")
    private static void invalidAt() {
        LineDiagram x = Check.of(STAR);
        int[][] wrong = {{-1, 0}, {12, 0}, {0, -1}, {0, 8}, {39, 0}, {0, 39}, {LEAST, 0}, {MOST, 0}, {0, LEAST}, {0, MOST}};
        for (int[] w : wrong) {
            due("at", x.at(w[0], w[1]), -1);
        }
        due("at(20, 0) of a new object", new LineDiagram().at(20, 0), -1);
        due("at(0, 12) of a new object", new LineDiagram().at(0, 12), -1);
    }

    // ---- promise 25

    @Says(in = "Promise 25", words = "Returns the lines that have it, as a bit mask")
    private static void linesOfACell() {
        LineDiagram x = Check.of(STAR);
        due("linesAt(0, 0)", x.linesAt(0, 0), 1);
        due("linesAt(1, 1)", x.linesAt(1, 1), 5);
        due("linesAt(6, 1)", x.linesAt(6, 1), 6);
        due("linesAt(8, 1)", x.linesAt(8, 1), 4);
        due("linesAt(9, 1)", x.linesAt(9, 1), 0);
        x.label(2, 1, 0);
        due("linesAt a label", x.linesAt(9, 1), 0);
        StringBuilder eight = new StringBuilder(HEAD);
        for (char name = 'a'; name < 'i'; name++) {
            eight.append("line ").append(name).append(" size 1 stops 2 at 1 1 at ").append(5 + name % 4).append(" 1;");
        }
        due("linesAt of all eight", Check.of(eight.toString()).linesAt(2, 1), 255);
        // 'a' % 4 is 1, so that c and g go to column 8
        due("linesAt of the longest ones", Check.of(eight.toString()).linesAt(8, 1), 1 << 2 | 1 << 6);
    }

    @Says(in = "Promise 25", words = "INVALID for an invalid argument")
    private static void invalidLinesAt() {
        LineDiagram x = Check.of(STAR);
        int[][] wrong = {{-1, 0}, {12, 0}, {0, -1}, {0, 8}, {39, 0}, {0, 39}, {LEAST, 0}, {MOST, 0}, {0, LEAST}, {0, MOST}};
        for (int[] w : wrong) {
            due("linesAt", x.linesAt(w[0], w[1]), -1);
        }
    }

    // ---- promise 26

    @Says(in = "Promise 26", words = "the greatest number of steps between two stations in a row less the least one")
    private static void unevenness() {
        LineDiagram x = Check.of("board 12 8 turn 2;line a size 1 stops 4 at 0 0 at 7 0;line b size 1 stops 4 at 0 1 at 6 1;line c size 1 stops 2 at 0 2 at 9 2;"
            + "line d size 1 stops 8 at 0 3 at 7 3;line e size 1 stops 8 at 0 4 at 8 4;");
        due("2, 2 and 3 steps", x.uneven(0), 1);
        due("2, 2 and 2 steps", x.uneven(1), 0);
        due("9 steps alone", x.uneven(2), 0);
        due("a step each", x.uneven(3), 0);
        due("a step each, but two at the end", x.uneven(4), 1);
    }

    @Says(in = "Promise 26", words = "INVALID for an invalid argument")
    private static void invalidUneven() {
        LineDiagram x = Check.of(BENT);
        for (int line : new int[] {-1, 1, 8, LEAST, MOST}) {
            due("uneven(" + line + ")", x.uneven(line), -1);
        }
        due("uneven(0) without lines", new LineDiagram().uneven(0), -1);
    }

    // ---- promise 27

    private static final String ONE = "line %s size 1 stops 2 at 0 0 at 3 0 at 5 2;", TWO = "line %s size 1 stops 2 at 0 0 at 3 0 at 3 3;",
        TWICE = "line %s size 1 stops 2 at 0 0 at 2 0 at 4 2 at 6 2;", NONE = "line %s size 1 stops 2 at 0 0 at 3 0;";

    private static LineDiagram turning(String... lines) {
        StringBuilder text = new StringBuilder("board 9 9 turn 2;");
        for (int i = 0; i < lines.length; i++) {
            text.append(String.format(lines[i], "l" + (char) ('a' + i)));
        }
        return Check.of(text.toString());
    }

    @Says(in = "Promise 27", words = "Returns the line with the greatest sum of its turns, of several the first one")
    private static void crookedestLines() {
        due("one line", turning(NONE).crookedest(), 0);
        due("straight lines", turning(NONE, NONE, NONE).crookedest(), 0);
        due("0, 1, 0", turning(NONE, ONE, NONE).crookedest(), 1);
        due("1, 2, 1 and 1", turning(ONE, TWO, TWICE).crookedest(), 1);
        due("1, 1 and 1, 2", turning(ONE, TWICE, TWO).crookedest(), 1);
        due("2, 1, 2", turning(TWO, ONE, TWO).crookedest(), 0);
        due("the last of eight", turning(ONE, ONE, ONE, NONE, ONE, NONE, ONE, TWO).crookedest(), 7);
    }

    @Says(in = "Promise 27", words = "NOT_FOUND without lines")
    private static void crookedestWithoutLines() {
        due("crookedest() of a new object", new LineDiagram().crookedest(), -2);
        LineDiagram x = turning(TWO);
        Check.write(x, HEAD);
        x.load();
        due("crookedest() behind load", x.crookedest(), -2);
    }

    // ---- promise 28

    private static final String SQUARE = "board 20 20 turn 2;line a size 1 stops 2 at 11 11 at 5 11;line b size 1 stops 2 at 11 5 at 5 5;";

    @Says(in = "Promise 28", words = "for which the greater one of the differences of columns and of rows is least")
    private static void nearestPlaces() {
        LineDiagram x = Check.of(SQUARE);
        due("nearest of a place itself", x.nearest(11, 11), 64 * 11 + 11);
        due("5 columns and 4 rows, or 5 and 2", x.nearest(0, 9), 64 * 5 + 5);
        due("3 columns and 8 rows, or 9 and 8", x.nearest(14, 19), 64 * 11 + 11);
        x = Check.of("board 20 20 turn 2;line a size 1 stops 2 at 4 4 at 4 10;line b size 1 stops 2 at 19 0 at 19 19;");
        // (4, 4): 3 and 3; (4, 10): 0 and 3, whose sum is less
        due("3 and 3, or 0 and 3", x.nearest(4, 7), 64 * 4 + 4);
        due("4 and 1, or 4 and 5", x.nearest(8, 5), 64 * 4 + 4);
        x = Check.of("board 40 40 turn 2;line a size 1 stops 2 at 39 39 at 39 38;");
        due("39 columns and 38 rows", x.nearest(0, 0), 64 * 38 + 39);
    }

    @Says(in = "Promise 28", words = "of several the first by rows, then by columns")
    private static void nearestOfSeveral() {
        LineDiagram x = Check.of(SQUARE);
        due("four alike", x.nearest(8, 8), 64 * 5 + 5);
        due("two of a row alike", x.nearest(8, 3), 64 * 5 + 5);
        due("two of a column alike", x.nearest(13, 8), 64 * 5 + 11);
        due("two of the lower row alike", x.nearest(8, 19), 64 * 11 + 5);
        // (6, 2) is in a row above (2, 6), though its column is greater
        due("two of a slant alike", Check.of("board 9 9 turn 2;line a size 1 stops 2 at 2 6 at 6 2;").nearest(4, 4), 64 * 2 + 6);
    }

    @Says(in = "Promise 28", words = "Returns 64 times the row plus the column of the place")
    private static void codesOfPlaces() {
        due("the first cell", Check.of("board 40 40 turn 2;line a size 1 stops 2 at 0 0 at 39 39;").nearest(0, 0), 0);
        due("the last cell", Check.of("board 40 40 turn 2;line a size 1 stops 2 at 0 0 at 39 39;").nearest(39, 39), 64 * 39 + 39);
        due("the end of the first row", Check.of("board 40 40 turn 2;line a size 1 stops 2 at 0 0 at 39 0;").nearest(39, 0), 39);
        due("the begin of the second row", Check.of("board 40 40 turn 2;line a size 1 stops 2 at 0 1 at 39 1;").nearest(0, 0), 64);
    }

    @Says(in = "Promise 28", words = "INVALID for an invalid argument")
    private static void invalidNearest() {
        LineDiagram x = Check.of(SQUARE);
        int[][] wrong = {{-1, 0}, {20, 0}, {0, -1}, {0, 20}, {LEAST, 0}, {MOST, 0}, {0, LEAST}, {0, MOST}};
        for (int[] w : wrong) {
            due("nearest", x.nearest(w[0], w[1]), -1);
            due("nearest without places", new LineDiagram().nearest(w[0], w[1]), -1);
        }
    }

    @Says(in = "Promise 28", words = "NOT_FOUND without places")
    private static void nearestWithoutPlaces() {
        due("nearest(0, 0) of a new object", new LineDiagram().nearest(0, 0), -2);
        due("nearest(19, 11) of a new object", new LineDiagram().nearest(19, 11), -2);
    }

    // ---- promise 29

    private static void both(LineDiagram x, int a, int b, int... wanted) {
        for (int i = 0; i < wanted.length; i++) {
            due("both(" + a + ", " + b + ", " + i + ")", x.both(a, b, i), wanted[i]);
            due("both(" + b + ", " + a + ", " + i + ")", x.both(b, a, i), wanted[i]);
        }
    }

    @Says(in = "Promise 29", words = "0 cells, 1 places with stations of both, 2 crossings at cells, 3 crossings between cells, 4 steps side by side")
    private static void whatTwoLinesHave() {
        LineDiagram x = Check.of("board 12 8 turn 3;line a size 1 stops 2 at 0 2 at 6 2;line b size 1 stops 2 at 4 2 at 9 2;line c size 1 stops 2 at 8 2 at 3 2;");
        // 4, 5 and 6 are of a and b, but 4 and 6 are places; 3 to 6 of a and c; 4 to 8 of b and c
        both(x, 0, 1, 3, 0, 1, 0, 2);
        both(x, 0, 2, 4, 0, 1, 0, 3);
        both(x, 1, 2, 5, 0, 2, 0, 4);
        x = Check.of(STAR);
        both(x, 0, 1, 0, 0, 0, 1, 0);
        both(x, 0, 2, 1, 0, 1, 0, 0);
        both(x, 1, 2, 1, 0, 1, 0, 0);
        // a place of both, and one of a on which b only comes by
        x = Check.of(HEAD + "line a size 1 stops 3 at 1 1 at 5 1;line b size 1 stops 2 at 3 1 at 9 1;line c size 1 stops 2 at 0 7 at 9 7;");
        both(x, 0, 1, 3, 1, 1, 0, 2);
        both(x, 0, 2, 0, 0, 0, 0, 0);
        // all that is possible at once: eight lines on one row
        StringBuilder eight = new StringBuilder(HEAD);
        for (char name = 'a'; name < 'i'; name++) {
            eight.append("line ").append(name).append(" size 1 stops 2 at 1 1 at 5 1;");
        }
        both(Check.of(eight.toString()), 0, 7, 5, 2, 3, 0, 4);
    }

    @Says(in = "Promise 29", words = "INVALID for an invalid argument or the same line")
    private static void invalidBoth() {
        LineDiagram x = Check.of(STAR);
        int[][] wrong = {{0, 0, 0}, {1, 1, 1}, {2, 2, 4}, {0, 0, 5}, {-1, 0, 0}, {0, -1, 0}, {3, 0, 0}, {0, 3, 0}, {-1, -1, 0}, {3, 3, 0}, {0, 1, -1}, {0, 1, 5},
            {LEAST, 0, 0}, {0, MOST, 0}, {0, 1, LEAST}, {0, 1, MOST}, {0, 32, 0}, {32, 0, 0}};
        for (int[] w : wrong) {
            due("both(" + w[0] + ", " + w[1] + ", " + w[2] + ")", x.both(w[0], w[1], w[2]), -1);
        }
        due("both(0, 1, 0) without lines", new LineDiagram().both(0, 1, 0), -1);
    }

    // ---- promise 30

    @Says(in = "Promise 30", words = "its place among all crossings at cells by rows, then by columns (a cell counts once), from 0")
    private static void crossingsInOrder() {
        // c meets a and b in row 1, b meets e in row 3 and d in row 4, where (4, 4) is of a, d and e
        LineDiagram x = Check.of("board 12 8 turn 3;line c size 3 stops 2 at 0 1 at 8 1;line b size 2 stops 2 at 7 0 at 0 7;line a size 1 stops 2 at 0 0 at 6 6;"
            + "line d size 1 stops 2 at 2 4 at 8 4;line e size 1 stops 2 at 4 2 at 4 7;");
        int[] codes = {64 + 1, 64 + 6, 64 * 3 + 4, 64 * 4 + 3, 64 * 4 + 4};
        for (int i = 0; i < codes.length; i++) {
            due("crossing(" + i + ")", x.crossing(i), codes[i]);
        }
        due("crossing(5)", x.crossing(5), -2);
        due("value(9)", x.value(9), 5);
    }

    @Says(in = "Promise 30", words = "Returns 64 times the row plus the column")
    private static void codesOfCrossings() {
        LineDiagram x = Check.of("board 4 4 turn 2;line a size 1 stops 2 at 0 2 at 0 0 at 2 0;line b size 1 stops 2 at 0 3 at 0 0 at 3 0;");
        due("the first cell", x.crossing(0), 0);
        due("the first row", x.crossing(1), 1);
        due("the second row", x.crossing(2), 64);
        x = Check.of("board 40 40 turn 2;line a size 1 stops 2 at 39 37 at 39 39 at 37 39;line b size 1 stops 2 at 39 36 at 39 39 at 36 39;");
        due("the last row but one", x.crossing(0), 64 * 38 + 39);
        due("the last cell", x.crossing(2), 64 * 39 + 39);
    }

    @Says(in = "Promise 30", words = "INVALID for a negative i")
    private static void negativeCrossing() {
        due("crossing(-1)", Check.of(STAR).crossing(-1), -1);
        due("crossing of the least int", Check.of(STAR).crossing(LEAST), -1);
        due("crossing(-1) without crossings", new LineDiagram().crossing(-1), -1);
    }

    @Says(in = "Promise 30", words = "NOT_FOUND if there are not so many")
    private static void noSuchCrossing() {
        due("crossing(1) of two", Check.of(STAR).crossing(1), 64 + 6);
        due("crossing(2) of two", Check.of(STAR).crossing(2), -2);
        due("crossing of the greatest int", Check.of(STAR).crossing(MOST), -2);
        due("crossing(0) of none", new LineDiagram().crossing(0), -2);
    }

    // ---- promises 31 and 32

    private static final String NET = "board 12 8 turn 3;line a size 1 stops 3 at 0 0 at 8 0;line b size 1 stops 4 at 4 0 at 4 6;"
        + "line c size 1 stops 3 at 0 6 at 8 6;line d size 1 stops 2 at 10 0 at 10 6;";
    private static final int[][] NO_STATIONS = {{-1, 0}, {4, 0}, {0, -1}, {0, 3}, {3, 2}, {LEAST, 0}, {MOST, 0}, {0, LEAST}, {0, MOST}};

    /** Eight lines of twenty stations in a row, the last one of nineteen: each ends where the next one begins. */
    private static LineDiagram chain() {
        String[] ends = {"0 0 at 19 0", "19 0 at 19 19", "19 19 at 38 19", "38 19 at 38 38", "38 38 at 19 38", "19 38 at 0 38", "0 38 at 0 19", "0 19 at 0 1"};
        StringBuilder text = new StringBuilder("board 40 40 turn 2;");
        for (int i = 0; i < 8; i++) {
            text.append("line ").append((char) ('a' + i)).append(" size 1 stops ").append(i < 7 ? 20 : 19).append(" at ").append(ends[i]).append(";");
        }
        return Check.of(text.toString());
    }

    @Says(in = "Promise 31", words = "the least number of rides from a station to the next one of a line (in both directions; to change at a place is no ride)")
    private static void leastRides() {
        LineDiagram x = Check.of(NET);
        int[][] ways = {{0, 0, 0, 0, 0}, {0, 0, 0, 2, 2}, {0, 1, 1, 0, 0}, {0, 0, 1, 0, 1}, {0, 0, 2, 2, 5}, {0, 2, 1, 3, 4}, {1, 3, 2, 1, 0}, {3, 0, 3, 1, 1}};
        for (int[] w : ways) {
            due("rides", x.rides(w[0], w[1], w[2], w[3]), w[4]);
            due("rides back", x.rides(w[2], w[3], w[0], w[1]), w[4]);
        }
        // round a loop the shorter way, over the place that it comes to again
        x = Check.of(LOOP);
        due("rides from 0 to 3 of a loop", x.rides(0, 0, 0, 3), 1);
        due("rides from 1 to 4 of a loop", x.rides(0, 1, 0, 4), 1);
        due("rides from 0 to 4 of a loop", x.rides(0, 0, 0, 4), 0);
        due("rides from 1 to 3 of a loop", x.rides(0, 1, 0, 3), 2);
        // (0, 0), (4, 0) and (0, 4) are one ride from one another, and (0, 7) is one on from the last
        x = Check.of(HEAD + "line a size 1 stops 2 at 0 0 at 4 0;line b size 1 stops 2 at 0 0 at 0 4;line c size 1 stops 2 at 4 0 at 0 4;line d size 1 stops 2 at 0 4 at 0 7;");
        due("rides by a triangle", x.rides(0, 0, 3, 1), 2);
        due("rides from its other corner", x.rides(0, 1, 3, 1), 2);
        x = chain();
        due("the longest way", x.rides(0, 0, 7, 18), 7 * 19 + 18);
        due("the longest way back", x.rides(7, 18, 0, 0), 7 * 19 + 18);
    }

    @Says(in = "Promise 31", words = "Returns the least number of rides")
    private static void ridesOfFullLines() {
        StringBuilder full = new StringBuilder("board 40 40 turn 2;");
        for (int i = 0; i < 8; i++) {
            full.append("line ").append((char) ('a' + i)).append(" size 1 stops 20 at 0 ").append(4 * i).append(" at 38 ").append(4 * i).append(";");
        }
        LineDiagram x = Check.of(full.toString());
        for (int i = 0; i < 8; i++) {
            due("rides along line " + i, x.rides(i, 0, i, 19), 19);
            due("rides back along line " + i, x.rides(i, 19, i, 0), 19);
            due("rides to the next line", x.rides(i, 19, (i + 1) % 8, 0), -2);
            due("changes along line " + i, x.changes(i, 0, i, 19), 0);
            due("changes to the next line", x.changes(i, 19, (i + 1) % 8, 0), -2);
        }
    }

    @Says(in = "Promise 31", words = "a line, perhaps the same")
    private static void ridesOfTheSameLine() {
        LineDiagram x = Check.of(NET);
        due("rides to the same station", x.rides(1, 2, 1, 2), 0);
        due("rides on", x.rides(1, 0, 1, 3), 3);
        due("rides back", x.rides(1, 3, 1, 0), 3);
    }

    @Says(in = "Promise 31", words = "INVALID for an invalid argument")
    private static void invalidRides() {
        LineDiagram x = Check.of(NET);
        for (int[] w : NO_STATIONS) {
            due("rides from", x.rides(w[0], w[1], 0, 0), -1);
            due("rides to", x.rides(3, 0, w[0], w[1]), -1);
        }
        due("rides without lines", new LineDiagram().rides(0, 0, 0, 0), -1);
    }

    @Says(in = "Promise 31", words = "NOT_FOUND if one cannot come there")
    private static void noRides() {
        LineDiagram x = Check.of(NET);
        due("rides to a line by itself", x.rides(0, 0, 3, 0), -2);
        due("rides from a line by itself", x.rides(3, 1, 2, 2), -2);
        // b's stations at (4, 2) and (4, 4) are left out: it meets c still, but a only at a cell when a has two stops
        due("setStops", x.setStops(0, 2), 0);
        due("rides over a cell that is no station of a", x.rides(0, 0, 1, 0), -2);
        due("rides over the other end", x.rides(1, 0, 2, 0), 4);
    }

    @Says(in = "Promise 32", words = "if the way begins at this station of any line that has a station at its place and ends likewise")
    private static void beginsAtAnyLine() {
        LineDiagram x = Check.of(NET);
        // (4, 0) is of a and b, (4, 6) of b and c
        due("changes from b's end as a's station to c's as b's", x.changes(0, 1, 1, 3), 0);
        due("changes from a's station to c's, both of b", x.changes(0, 1, 2, 1), 0);
        due("changes from a's end to c's end", x.changes(0, 0, 2, 2), 2);
        due("changes from a's end to c's station of b", x.changes(0, 0, 2, 1), 1);
        due("changes back", x.changes(2, 1, 0, 0), 1);
        due("changes from c's end to c's station of b", x.changes(2, 2, 2, 1), 0);
        due("changes from c's end to b's station of c", x.changes(2, 2, 1, 3), 0);
        due("changes from b's to b's station of a", x.changes(1, 1, 1, 0), 0);
        due("the most changes", chain().changes(0, 0, 7, 18), 7);
        due("the most changes back", chain().changes(7, 18, 0, 0), 7);
        due("changes from an end that two lines have", chain().changes(0, 19, 7, 18), 6);
    }

    @Says(in = "Promise 32", words = "(0 if both are of one place; to go on by the same line from another one of its stations there is no change)")
    private static void noChange() {
        LineDiagram x = Check.of(NET);
        due("changes to the other line of a place", x.changes(0, 1, 1, 0), 0);
        due("changes to the same station", x.changes(3, 1, 3, 1), 0);
        x = Check.of(LOOP + "line b size 1 stops 2 at 1 1 at 1 0;line c size 1 stops 2 at 1 5 at 1 7;");
        due("changes from b over the place where a comes again to c", x.changes(1, 1, 2, 1), 2);
        due("changes from a's last station to its second one", x.changes(0, 4, 0, 1), 0);
        due("changes from the place of a and b to c's of a", x.changes(1, 0, 2, 0), 0);
    }

    @Says(in = "Promise 32", words = "Returns the least number of changes from one line to another one")
    private static void leastChanges() {
        // 12 rides without a change, or 4 with two of them
        LineDiagram x = Check.of("board 20 9 turn 2;line a size 1 stops 13 at 0 0 at 12 0;line b size 1 stops 2 at 1 0 at 1 4;line c size 1 stops 2 at 1 4 at 7 4 at 11 0;");
        due("changes", x.changes(0, 0, 0, 12), 0);
        due("rides", x.rides(0, 0, 0, 12), 4);
        due("changes to c over its other end", x.changes(0, 0, 2, 0), 1);
        // to a line over one other line, though there is a way over two
        x = Check.of(HEAD + "line a size 1 stops 3 at 1 1 at 5 1;line b size 1 stops 2 at 1 1 at 1 5;line c size 1 stops 2 at 1 5 at 5 5;line d size 1 stops 3 at 5 1 at 5 5;");
        due("changes to d", x.changes(0, 1, 3, 1), 1);
    }

    @Says(in = "Promise 32", words = "INVALID for an invalid argument")
    private static void invalidChanges() {
        LineDiagram x = Check.of(NET);
        for (int[] w : NO_STATIONS) {
            due("changes from", x.changes(w[0], w[1], 0, 0), -1);
            due("changes to", x.changes(3, 0, w[0], w[1]), -1);
        }
        due("changes without lines", new LineDiagram().changes(0, 0, 0, 0), -1);
    }

    @Says(in = "Promise 32", words = "NOT_FOUND if one cannot come there")
    private static void noChanges() {
        LineDiagram x = Check.of(NET);
        due("changes to a line by itself", x.changes(0, 0, 3, 0), -2);
        due("changes from a line by itself", x.changes(3, 1, 2, 2), -2);
        due("setStops", x.setStops(0, 2), 0);
        due("changes over a cell that is no station of a", x.changes(0, 0, 1, 0), -2);
        due("changes over the other end", x.changes(1, 0, 2, 0), 1);
    }
}
