/** The sentences of the terms, sections 1 to 4 and 6, and of what stands around them, that name an edge: a test for each. */
public final class EdgesOfTermsTest {
    private static final Check CHECK = new Check("EdgesOfTermsTest");
    private static final String HEAD = "board 12 8 turn 2;";
    /** Seven steps, with stations at (1, 1), (4, 1) and (8, 4) of LONG 2, 3 and 4. */
    private static final String BENT = HEAD + "line a size 2 stops 3 at 1 1 at 5 1 at 8 4;";
    private static final String TEN = HEAD
        + "line a size 1 stops 2 at 0 0 at 1 0 at 2 0 at 3 0 at 4 0 at 5 0 at 6 0 at 7 0 at 8 0 at 9 0;";
    private static final String LOOP = HEAD + "line a size 2 stops 5 at 1 1 at 5 1 at 5 5 at 1 5 at 1 1;";
    private static final String[] ENDS = {"9 5", "9 9", "5 9", "1 9", "1 5", "1 1", "5 1", "9 1"};

    public static void main(String[] args) throws Exception {
        CHECK.eachSentence(EdgesOfTermsTest.class);
        CHECK.end();
    }

    private static void due(String call, double got, double want) {
        CHECK.due(call, got, want);
    }

    private static String lines(int many) {
        StringBuilder all = new StringBuilder(HEAD);
        for (int i = 0; i < many; i++) {
            all.append("line ").append((char) ('a' + i)).append(" size 1 stops 2 at 1 ").append(i % 8).append(" at 5 ").append(i % 8).append(";");
        }
        return all.toString();
    }

    // ---- what it is

    /** An object has answered six calls when BENT is loaded, so that the last one here is its 512th. */
    @Says(in = "What it is", words = "An object is used for at most 512 calls after it has been made")
    private static void callsOfAnObject() {
        LineDiagram x = Check.of(BENT);
        for (int i = 0; i < 504; i++) {
            due("setSize number " + i, x.setSize(0, 1 + i % 2), 0);
        }
        due("the 511th call: undo()", x.undo(), 7);
        due("the 512th call: SIZE", x.line(0, 2), 1);
        x = Check.of(BENT);
        for (int i = 0; i < 101; i++) {
            due("labelAll number " + i, x.labelAll(), 3);
            due("keep number " + i, x.keep(i % 2), 3);
            due("undo of labelAll number " + i, x.undo(), 0);
            due("restore number " + i, x.restore(i % 2), 3);
            due("undo of restore number " + i, x.undo(), 0);
        }
        due("the 512th call: labels", x.value(6), 0);
    }

    @Says(in = "Not promised", words = "nothing about an object after its 512th call")
    private static void callsOfManyTexts() {
        LineDiagram x = new LineDiagram();
        for (int i = 0; i < 170; i++) {
            due("append", x.append(0x626f6172, 0x64203420, 0x34302074, 0x75726e20, 0x303b3b3b), 20);
            due("truncate", x.truncate(2 + i % 2), 18 - i % 2);
            due("load", x.load(), i % 2 == 0 ? 0 : -1);
        }
        due("the 511th call: errorPosition()", x.errorPosition(), 17);
        due("the 512th call: HIGH", x.value(1), 40);
    }

    // ---- 1. the board and lines

    @Says(in = "Terms 1", words = "The board has WIDE columns and HIGH rows (4 to 40 each)")
    private static void sidesOfTheBoard() {
        int[][] sides = {{4, 4}, {4, 40}, {40, 4}, {40, 40}};
        for (int[] side : sides) {
            LineDiagram x = Check.of("board " + side[0] + " " + side[1] + " turn 2;");
            due("value(0)", x.value(0), side[0]);
            due("value(1)", x.value(1), side[1]);
            due("at the last cell", x.at(side[0] - 1, side[1] - 1), 0);
            due("at one column beyond", x.at(side[0], side[1] - 1), -1);
            due("at one row beyond", x.at(side[0] - 1, side[1]), -1);
        }
        CHECK.refuses("board ^3 4 turn 2;");
        CHECK.refuses("board 4 ^3 turn 2;");
        CHECK.refuses("board ^41 40 turn 2;");
        CHECK.refuses("board 40 ^41 turn 2;");
    }

    @Says(in = "Terms 1", words = "x is the column from 0 on, y the row from 0 on, from above")
    private static void firstCell() {
        LineDiagram x = Check.of("board 5 4 turn 2;line a size 1 stops 2 at 0 0 at 4 0;");
        CHECK.due("picture", Check.picture(x), "o000o\n.....\n.....\n.....\n");
        due("at(0, 0)", x.at(0, 0), 3);
        due("at(4, 0)", x.at(4, 0), 3);
        due("at(0, 3)", x.at(0, 3), 0);
        due("at(-1, 0)", x.at(-1, 0), -1);
        due("at(0, -1)", x.at(0, -1), -1);
    }

    @Says(in = "Terms 1", words = "There are up to 8 lines, numbered from 0")
    private static void upToEightLines() {
        LineDiagram x = Check.of(lines(8));
        due("value(3)", x.value(3), 8);
        due("line(0, 0)", x.line(0, 0), 2);
        due("line(7, 0)", x.line(7, 0), 2);
        due("line(8, 0)", x.line(8, 0), -1);
        due("line(-1, 0)", x.line(-1, 0), -1);
        due("linesAt of the last one", x.linesAt(1, 7), 128);
        String eight = lines(8);
        CHECK.refuses(eight + "^" + lines(9).substring(eight.length()));
    }

    @Says(in = "Terms 1", words = "each with a name and 2 to 10 points, which are cells")
    private static void pointsOfALine() {
        due("points of two", Check.of(lines(1)).line(0, 0), 2);
        due("points of ten", Check.of(TEN).line(0, 0), 10);
        CHECK.refuses(HEAD + "line a size 1 stops 2 at 1 1^;");
        CHECK.refuses(TEN.substring(0, TEN.length() - 1) + " ^at 10 0;");
        due("removePoint of one of two", Check.of(lines(1)).removePoint(0, 1), -2);
        due("insert of an eleventh one", Check.of(TEN).insert(0, 10, 10, 0), -2);
        CHECK.refuses(HEAD + "line a size 1 stops 2 at 11 7 at ^12 7;");
        CHECK.refuses(HEAD + "line a size 1 stops 2 at 11 6 at 11 ^8;");
    }

    @Says(in = "Terms 1", words = "level, upright or slanting by as many columns as rows")
    private static void straightRuns() {
        LineDiagram x = Check.of("board 12 12 turn 0;line a size 1 stops 2 at 5 5 at 7 5;");
        int[][] straight = {{9, 5}, {5, 9}, {9, 9}, {1, 9}, {1, 1}, {9, 1}, {5, 1}, {1, 5}};
        for (int[] to : straight) {
            due("moveBend to " + to[0] + " " + to[1], x.moveBend(0, 1, to[0], to[1]), 0);
        }
        int[][] other = {{1, 6}, {1, 4}, {6, 9}, {4, 9}, {9, 8}, {9, 10}, {8, 9}, {10, 9}, {1, 8}, {8, 1}, {0, 1}, {1, 0}};
        for (int[] to : other) {
            due("moveBend to " + to[0] + " " + to[1], x.moveBend(0, 1, to[0], to[1]), -3);
        }
        CHECK.refuses("board 12 12 turn 0;line a size 1 stops 2 at 5 5 at 9 ^8;");
    }

    @Says(in = "Terms 1", words = "two points in a row are different cells")
    private static void pointsInARow() {
        LineDiagram x = Check.of(HEAD + "line a size 1 stops 2 at 5 5 at 7 5;");
        due("moveBend upon the point ahead", x.moveBend(0, 1, 5, 5), -3);
        due("moveBend upon the point behind", x.moveBend(0, 0, 7, 5), -3);
        for (int i = 0; i < 3; i++) {
            due("insert(0, " + i + ") upon a neighbour", x.insert(0, i, i < 2 ? 5 : 7, 5), -3);
        }
        due("insert between upon the point behind", x.insert(0, 1, 7, 5), -3);
        CHECK.refuses(HEAD + "line a size 1 stops 2 at 5 5 at 5 ^5 at 7 5;");
        // points that are not in a row may be one cell
        CHECK.loads(LOOP, 1);
    }

    @Says(in = "Terms 1", words = "the length of a line is the number of its steps")
    private static void lengths() {
        due("one step", Check.of(HEAD + "line a size 1 stops 2 at 5 5 at 6 6;").line(0, 3), 1);
        due("seven slanting steps", Check.of(HEAD + "line a size 1 stops 2 at 0 0 at 7 7;").line(0, 3), 7);
        due("four level and three slanting steps", Check.of(BENT).line(0, 3), 7);
        due("a loop", Check.of(LOOP).line(0, 3), 16);
        due("over the whole board", Check.of("board 40 40 turn 2;line a size 1 stops 2 at 0 0 at 39 0 at 39 39;").line(0, 3), 78);
    }

    @Says(in = "Terms 1", words = "Its cells are those where it comes, the points and all between")
    private static void cellsOfALine() {
        LineDiagram x = Check.of(BENT);
        int[][] on = {{1, 1}, {2, 1}, {3, 1}, {4, 1}, {5, 1}, {6, 2}, {7, 3}, {8, 4}};
        for (int[] cell : on) {
            due("linesAt(" + cell[0] + ", " + cell[1] + ")", x.linesAt(cell[0], cell[1]), 1);
        }
        int[][] off = {{0, 1}, {6, 1}, {5, 2}, {7, 2}, {6, 3}, {9, 5}, {9, 4}, {8, 5}};
        for (int[] cell : off) {
            due("linesAt(" + cell[0] + ", " + cell[1] + ")", x.linesAt(cell[0], cell[1]), 0);
        }
        due("value(7)", x.value(7), 8);
    }

    @Says(in = "Terms 1", words = "The eight ways are numbered 0 to 7: 0 to the right, 1 right and down, 2 down, 3 left and down, 4 left, 5 left and up, 6 up, 7 right and up")
    private static void ways() {
        for (int way = 0; way < 8; way++) {
            LineDiagram x = Check.of("board 11 11 turn 0;line a size 1 stops 2 at 5 5 at " + ENDS[way] + ";");
            due("way to " + ENDS[way], x.station(0, 1, 3), way);
        }
    }

    @Says(in = "Terms 1", words = "how many eighths the ways of both differ, 0 to 4 (the lesser one of both ways round)")
    private static void turnsBothWaysRound() {
        int[] turns = {0, 1, 2, 3, 4, 3, 2, 1};
        for (int ahead = 0; ahead < 8; ahead++) {
            for (int behind = 0; behind < 8; behind++) {
                int turn = turns[(behind + 8 - ahead) % 8];
                String text = "board 11 11 turn 3;line a size 1 stops 2 at " + ENDS[(ahead + 4) % 8] + " at 5 5 at " + ENDS[behind] + ";";
                if (turn < 4) {
                    due("turn from way " + ahead + " to way " + behind, Check.of(text).turn(0, 1), turn);
                } else {
                    CHECK.refuses(text.substring(0, text.length() - 2) + "^" + text.substring(text.length() - 2));
                }
            }
        }
    }

    @Says(in = "Terms 1", words = "No turn of a line may be greater than TURN (0 to 3)")
    private static void greatestTurns() {
        String[] behind = {"9 5", "9 9", "5 9", "1 9", "1 5"};
        for (int most = 0; most < 4; most++) {
            String head = "board 11 11 turn " + most + ";line a size 1 stops 2 at 1 5 at 5 5";
            for (int turn = 0; turn < 5; turn++) {
                String end = behind[turn].substring(0, 2), row = behind[turn].substring(2);
                if (turn <= most) {
                    CHECK.loads(head + " at " + behind[turn] + ";", 1);
                } else {
                    CHECK.refuses(head + " at " + end + "^" + row + ";");
                }
                int[] to = {Integer.parseInt(end.trim()), Integer.parseInt(row)};
                due("insert that turns by " + turn + " of " + most, Check.of(head + ";").insert(0, 2, to[0], to[1]), turn <= most ? 0 : -3);
            }
        }
        CHECK.refuses("board 11 11 turn ^4;");
        due("the TURN of a new object", new LineDiagram().value(2), 2);
    }

    // ---- 2. stations

    @Says(in = "Terms 2", words = "A line has STOPS (2 to 20) stations, numbered from 0")
    private static void stopsOfALine() {
        LineDiagram x = Check.of("board 40 8 turn 2;line a size 1 stops 20 at 0 0 at 39 0;");
        due("station(0, 0, 0)", x.station(0, 0, 0), 0);
        due("station(0, 19, 0)", x.station(0, 19, 0), 39);
        due("station(0, 20, 0)", x.station(0, 20, 0), -1);
        due("station(0, -1, 0)", x.station(0, -1, 0), -1);
        due("setStops(0, 21)", x.setStops(0, 21), -1);
        due("setStops(0, 1)", x.setStops(0, 1), -1);
        due("setStops(0, 2)", x.setStops(0, 2), 0);
        due("station(0, 1, 0)", x.station(0, 1, 0), 39);
        due("station(0, 2, 0)", x.station(0, 2, 0), -1);
        CHECK.refuses("board 40 8 turn 2;line a size 1 stops ^1 at 0 0 at 39 0;");
        CHECK.refuses("board 40 8 turn 2;line a size 1 stops ^21 at 0 0 at 39 0;");
    }

    @Says(in = "Terms 2", words = "but never more than its length plus 1")
    private static void stopsAndLength() {
        CHECK.loads(HEAD + "line a size 1 stops 5 at 0 0 at 4 0;", 1);
        CHECK.refuses(HEAD + "line a size 1 stops 6 at 0 0 at 4 0^;");
        CHECK.loads(HEAD + "line a size 1 stops 2 at 0 0 at 1 0;", 1);
        LineDiagram x = Check.of(HEAD + "line a size 1 stops 2 at 0 0 at 4 0;");
        due("setStops of one more than steps and 1", x.setStops(0, 6), -4);
        due("setStops of steps and 1", x.setStops(0, 5), 0);
        due("moveBend that takes a step away", x.moveBend(0, 1, 3, 0), -4);
        due("moveBend that takes none away", x.moveBend(0, 1, 4, 4), 0);
    }

    @Says(in = "Terms 2", words = "i times its length, divided by STOPS less 1 and cut, steps")
    private static void stepsOfStations() {
        LineDiagram x = Check.of("board 40 8 turn 2;line a size 1 stops 20 at 0 0 at 39 0;line b size 1 stops 4 at 0 1 at 7 1;"
            + "line c size 1 stops 6 at 8 2 at 0 2;");
        for (int i = 0; i < 19; i++) {
            due("station(0, " + i + ", 2)", x.station(0, i, 2), 2 * i);
            due("station(0, " + i + ", 0)", x.station(0, i, 0), 2 * i);
        }
        due("station(0, 19, 2)", x.station(0, 19, 2), 39);
        int[] seven = {0, 2, 4, 7}, eight = {0, 1, 3, 4, 6, 8};
        for (int i = 0; i < 4; i++) {
            due("station(1, " + i + ", 2)", x.station(1, i, 2), seven[i]);
            due("station(1, " + i + ", 0)", x.station(1, i, 0), seven[i]);
        }
        for (int i = 0; i < 6; i++) {
            due("station(2, " + i + ", 2)", x.station(2, i, 2), eight[i]);
            due("station(2, " + i + ", 0)", x.station(2, i, 0), 8 - eight[i]);
        }
    }

    @Says(in = "Terms 2", words = "(of one line or several, or several of one that comes there again)")
    private static void places() {
        LineDiagram x = Check.of(LOOP);
        due("stations of a loop", x.value(4), 5);
        due("places of a loop", x.value(5), 4);
        due("stations where it comes again", x.station(0, 4, 5), 2);
        x = Check.of(HEAD + "line a size 1 stops 2 at 1 1 at 5 1;line b size 1 stops 2 at 5 1 at 5 5;line c size 1 stops 2 at 5 1 at 9 1;");
        due("stations of three lines", x.value(4), 6);
        due("places of three lines", x.value(5), 4);
        due("stations where they meet", x.station(2, 0, 5), 3);
        due("stations elsewhere", x.station(2, 1, 5), 1);
    }

    @Says(in = "Terms 2", words = "Stations of one place are together: one can change there")
    private static void together() {
        LineDiagram x = Check.of(HEAD + "line a size 1 stops 2 at 1 1 at 5 1;line b size 1 stops 2 at 5 1 at 5 5;line c size 1 stops 2 at 3 1 at 3 5;");
        due("rides over the place of both", x.rides(0, 0, 1, 1), 2);
        due("changes over the place of both", x.changes(0, 0, 1, 1), 1);
        // (3, 1) is a station of c, but only a cell of a
        due("rides over a cell of both", x.rides(0, 0, 2, 1), -2);
        due("changes over a cell of both", x.changes(0, 0, 2, 1), -2);
    }

    // ---- 3. labels

    @Says(in = "Terms 3", words = "A label of a place has a LONG: the greatest of those of its stations")
    private static void longOfAPlace() {
        LineDiagram x = Check.of("board 20 8 turn 2;line a size 1 stops 2 at 9 3 at 9 6;line b size 2 stops 3 at 5 3 at 9 3;"
            + "line c size 3 stops 2 at 9 3 at 9 0;");
        // 1, 2 + 2 and 3
        due("label of three stations", x.label(0, 0, 2), 4);
        due("setSize of the greatest one", x.setSize(1, 1), 0);
        due("cells of its label: 1, 1 + 2 and 3", x.value(8), 3);
        due("setSize of the first one", x.setSize(0, 4), 0);
        due("cells of its label: 4, 3 and 3", x.value(8), 4);
    }

    @Says(in = "Terms 3", words = "the LONG of station i of a line is the SIZE of the line (1 to 10) plus the remainder of i by 3")
    private static void longOfAStation() {
        LineDiagram x = Check.of("board 40 8 turn 2;line a size 1 stops 7 at 1 2 at 13 2;line b size 10 stops 4 at 1 5 at 13 5;");
        int[] small = {1, 2, 3, 1, 2, 3, 1}, large = {10, 11, 12, 10};
        for (int i = 0; i < small.length; i++) {
            due("station(0, " + i + ", 4)", x.station(0, i, 4), small[i]);
            due("label(0, " + i + ", 2)", x.label(0, i, 2), small[i]);
            x.unlabel(0, i);
        }
        for (int i = 0; i < large.length; i++) {
            due("station(1, " + i + ", 4)", x.station(1, i, 4), large[i]);
            due("label(1, " + i + ", 3)", x.label(1, i, 3), large[i]);
            x.unlabel(1, i);
        }
        due("setSize(0, 0)", x.setSize(0, 0), -1);
        due("setSize(0, 11)", x.setSize(0, 11), -1);
        CHECK.refuses(HEAD + "line a size ^0 stops 2 at 1 1 at 5 1;");
        CHECK.refuses(HEAD + "line a size ^11 stops 2 at 1 1 at 5 1;");
    }

    /** Where the label of (5, 3) lies in each POSITION; its line goes away from that side. */
    @Says(in = "Terms 3", words = "It stands in one of eight POSITIONS beside its place (x, y)")
    private static void positionsBesideAPlace() {
        int[] left = {6, 3, 6, 6, 3, 3, 4, 4}, row = {3, 3, 2, 4, 2, 4, 2, 4};
        for (int position = 0; position < 8; position++) {
            LineDiagram x = Check.of(HEAD + "line a size 2 stops 2 at 5 3 at " + (position == 0 ? "1 3;" : "9 3;"));
            due("label(0, 0, " + position + ")", x.label(0, 0, position), 2);
            for (int y = 0; y < 8; y++) {
                for (int column = 0; column < 12; column++) {
                    boolean there = y == row[position] && column >= left[position] && column < left[position] + 2;
                    due("labelAt(" + column + ", " + y + ")", x.labelAt(column, y), there ? 64 * 3 + 5 : -2);
                }
            }
        }
    }

    @Says(in = "Terms 3", words = "It is one row high and LONG columns wide")
    private static void sizesOfLabels() {
        for (int size = 1; size <= 10; size++) {
            // a has its stations of LONG SIZE, SIZE + 1 and SIZE + 2 in the middle of a board without anything else
            LineDiagram x = Check.of("board 40 40 turn 2;line a size " + size + " stops 3 at 20 19 at 20 21;");
            for (int station = 0; station < 3; station++) {
                due("label(0, " + station + ", 0)", x.label(0, station, 0), size + station);
                due("cells of labels", x.value(8), size + station);
                due("labelAt its last column", x.labelAt(20 + size + station, 19 + station), 64 * (19 + station) + 20);
                due("labelAt behind it", x.labelAt(21 + size + station, 19 + station), -2);
                due("labelAt above it", x.labelAt(21, 18 + station), -2);
                due("labelAt below it", x.labelAt(21, 20 + station), -2);
                x.unlabel(0, station);
            }
        }
    }

    @Says(in = "Terms 3", words = "0 right: from column x + 1 on, in row y; 1 left: up to column x - 1, in row y; 2 above right: from column x + 1 on, in row y - 1; "
        + "3 below right: likewise in row y + 1; 4 above left: up to column x - 1, in row y - 1; 5 below left: likewise in row y + 1")
    private static void besideThePlace() {
        int[] rows = {19, 19, 18, 20, 18, 20};
        for (int size = 1; size <= 10; size += 3) {
            LineDiagram x = Check.of("board 40 40 turn 2;line a size " + size + " stops 2 at 20 19 at 20 30;");
            for (int position = 0; position < 6; position++) {
                int side = position == 0 || position == 2 || position == 3 ? 1 : -1;
                due("label(0, 0, " + position + ")", x.label(0, 0, position), size);
                due("labelAt above, at or below the place", x.labelAt(20, rows[position]), -2);
                due("labelAt the column beside it", x.labelAt(20 + side, rows[position]), 64 * 19 + 20);
                due("labelAt the farthest column", x.labelAt(20 + side * size, rows[position]), 64 * 19 + 20);
                due("labelAt the column behind that", x.labelAt(20 + side * (size + 1), rows[position]), -2);
                due("cells of labels", x.value(8), size);
            }
        }
    }

    @Says(in = "Terms 3", words = "6 above: from column x - LONG / 2 (cut) on, in row y - 1; 7 below: likewise in row y + 1")
    private static void halfOfTheLong() {
        // the first columns of labels of 1 to 6 above column 5
        int[] first = {5, 4, 4, 3, 3, 2};
        for (int size = 1; size <= 6; size++) {
            for (int position = 6; position < 8; position++) {
                LineDiagram x = Check.of("board 14 8 turn 2;line a size " + size + " stops 2 at 5 3 at 9 3;");
                int y = position == 6 ? 2 : 4, from = first[size - 1];
                due("label(0, 0, " + position + ")", x.label(0, 0, position), size);
                due("labelAt ahead of it", x.labelAt(from - 1, y), -2);
                due("labelAt its first column", x.labelAt(from, y), 64 * 3 + 5);
                due("labelAt its last column", x.labelAt(from + size - 1, y), 64 * 3 + 5);
                due("labelAt behind it", x.labelAt(from + size, y), -2);
            }
        }
    }

    @Says(in = "Terms 3", words = "A label fits if all its cells are on the board")
    private static void labelsAtTheEdges() {
        // (5, 3) on a board of 12 columns: 6 are free to the right, 5 to the left
        for (int size = 5; size <= 7; size++) {
            LineDiagram x = Check.of(HEAD + "line a size " + size + " stops 2 at 5 3 at 5 6;");
            due("why(0, 0, 0) of " + size, x.why(0, 0, 0), size <= 6 ? 0 : -5);
            due("why(0, 0, 2) of " + size, x.why(0, 0, 2), size <= 6 ? 0 : -5);
            due("why(0, 0, 1) of " + size, x.why(0, 0, 1), size <= 5 ? 0 : -5);
            due("why(0, 0, 4) of " + size, x.why(0, 0, 4), size <= 5 ? 0 : -5);
        }
        // (1, 3): above, a label of 3 begins in column 0, one of 4 ahead of it
        due("why(0, 0, 6) of 3", Check.of(HEAD + "line a size 3 stops 2 at 1 3 at 1 6;").why(0, 0, 6), 0);
        due("why(0, 0, 6) of 4", Check.of(HEAD + "line a size 4 stops 2 at 1 3 at 1 6;").why(0, 0, 6), -5);
        // (10, 3): a label of 3 ends in column 11, one of 4 too, one of 5 behind it
        due("why(0, 0, 6) of 4", Check.of(HEAD + "line a size 4 stops 2 at 10 3 at 10 6;").why(0, 0, 6), 0);
        due("why(0, 0, 6) of 5", Check.of(HEAD + "line a size 5 stops 2 at 10 3 at 10 6;").why(0, 0, 6), -5);
        LineDiagram x = Check.of(HEAD + "line a size 1 stops 2 at 5 0 at 5 7;line b size 1 stops 2 at 8 1 at 8 6;");
        for (int position : new int[] {2, 4, 6}) {
            due("why above the first row, " + position, x.why(0, 0, position), -5);
        }
        due("why in the first row", x.why(1, 0, 2), 0);
        for (int position : new int[] {3, 5, 7}) {
            due("why below the last row, " + position, x.why(0, 1, position), -5);
        }
        due("why in the last row", x.why(1, 1, 3), 0);
    }

    @Says(in = "Terms 3", words = "none is a cell of a line, and none is a cell of another label")
    private static void labelsUponOthers() {
        // above right of (1, 3) a label of 4 takes columns 2 to 5; an upright line or a label in each column
        for (int column = 1; column <= 6; column++) {
            LineDiagram x = Check.of(HEAD + "line a size 4 stops 2 at 1 3 at 1 6;line b size 1 stops 2 at " + column + " 0 at " + column + " 2;");
            due("why beside a line in column " + column, x.why(0, 0, 2), column >= 2 && column <= 5 ? -6 : 0);
            x = Check.of(HEAD + "line a size 4 stops 2 at 1 3 at 1 6;line b size 1 stops 2 at " + column + " 1 at " + column + " 0;");
            due("label", x.label(1, 0, 7), 1);
            due("why beside a label in column " + column, x.why(0, 0, 2), column >= 2 && column <= 5 ? -7 : 0);
        }
    }

    @Says(in = "Terms 3", words = "Each place has one label or none")
    private static void oneLabelOrNone() {
        LineDiagram x = Check.of(HEAD + "line a size 2 stops 2 at 5 3 at 9 3;line b size 2 stops 2 at 5 3 at 5 6;");
        due("labels", x.value(6), 0);
        due("label by one line", x.label(0, 0, 2), 2);
        due("label by the other one", x.label(1, 0, 4), 2);
        due("labels", x.value(6), 1);
        due("cells of labels", x.value(8), 2);
        due("labelAt where it was", x.labelAt(6, 2), -2);
        due("position by the first line", x.position(0, 0), 4);
    }

    /** Stations at 8, 5 and 1 come to 1, 4 and 8: the label of 8 grows to where that of 5 was. */
    @Says(in = "Terms 3", words = "first each label whose place is no place any more is lost")
    private static void placesThatGo() {
        LineDiagram x = Check.of(HEAD + "line a size 1 stops 3 at 8 3 at 1 3;");
        due("label of (5, 3) in columns 4 and 5", x.label(0, 1, 6), 2);
        due("label of (8, 3) in column 7", x.label(0, 0, 4), 1);
        due("reverse", x.reverse(0), 1);
        due("label of (8, 3) in columns 5 to 7", x.position(0, 2), 4);
        due("labelAt(5, 2)", x.labelAt(5, 2), 64 * 3 + 8);
        due("labelAt(4, 2)", x.labelAt(4, 2), -2);
        due("labels", x.value(6), 1);
    }

    @Says(in = "Terms 3", words = "then, by the rows and then the columns of their places, each label that does not fit any more")
    private static void orderOfLosses() {
        // (7, 2) is in a row above (2, 4), though its column is greater
        LineDiagram x = Check.of(HEAD + "line a size 1 stops 2 at 2 4 at 2 7;line b size 1 stops 2 at 7 2 at 9 2;");
        x.label(0, 0, 2);
        x.label(1, 0, 5);
        due("setSize of the lower one", x.setSize(0, 4), 1);
        due("position of the lower one", x.position(0, 0), -2);
        due("position of the upper one", x.position(1, 0), 5);
        // (1, 3) is ahead of (4, 3), whichever grows, and in whichever order the lines are
        String left = "line l size 1 stops 2 at 1 3 at 1 6;", right = "line r size 1 stops 2 at 4 3 at 4 6;";
        for (int first = 0; first < 2; first++) {
            for (int grown = 0; grown < 2; grown++) {
                x = Check.of(HEAD + (first == 0 ? left + right : right + left));
                x.label(first, 0, 2);
                x.label(1 - first, 0, 4);
                due("setSize(" + grown + ", 2)", x.setSize(grown, 2), 1);
                due("position of the left one", x.position(first, 0), 2);
                due("position of the right one", x.position(1 - first, 0), -2);
            }
        }
    }

    /** The label of (1, 3) grows upon that of (5, 3), which is lost; that of (9, 3) grows to where it was. */
    @Says(in = "Terms 3", words = "beside the lines and the labels that were kept so far is lost")
    private static void lostLabelsAreNotInTheWay() {
        LineDiagram x = Check.of(HEAD + "line a size 2 stops 2 at 1 3 at 9 3;line b size 2 stops 2 at 5 3 at 5 6;");
        due("label in columns 2 and 3", x.label(0, 0, 2), 2);
        due("label in columns 4 and 5", x.label(1, 0, 6), 2);
        due("label in columns 6 to 8", x.label(0, 1, 4), 3);
        due("setSize", x.setSize(0, 3), 1);
        due("position of the first one", x.position(0, 0), 2);
        due("position of the one between", x.position(1, 0), -2);
        due("position of the last one", x.position(0, 1), 4);
        due("labelAt(4, 2)", x.labelAt(4, 2), 64 * 3 + 1);
        due("labelAt(5, 2)", x.labelAt(5, 2), 64 * 3 + 9);
    }

    @Says(in = "Terms 3", words = "the others are kept in their POSITIONS, with the LONG that they have then")
    private static void othersAreKept() {
        LineDiagram x = Check.of(HEAD + "line a size 2 stops 2 at 5 3 at 5 6;line b size 1 stops 2 at 9 1 at 11 1;");
        x.label(0, 0, 4);
        x.label(0, 1, 7);
        x.label(1, 0, 1);
        due("setSize(0, 3)", x.setSize(0, 3), 0);
        due("position(0, 0)", x.position(0, 0), 4);
        due("position(0, 1)", x.position(0, 1), 7);
        due("position(1, 0)", x.position(1, 0), 1);
        // columns 2 to 4 of row 2, columns 3 to 6 of row 7, and column 8 of row 1
        CHECK.due("picture", Check.picture(x), "............\n" + "........=o1o\n" + "..===.......\n" + ".....o......\n"
            + ".....0......\n" + ".....0......\n" + ".....o......\n" + "...====.....\n");
    }

    /** (10, 0), (10, 1), (1, 2) and (9, 2), whose label of 7 has no room beside the others. */
    @Says(in = "Terms 3", words = "To label all means: by the rows and then the columns of the places that have no label, "
        + "each gets the first POSITION in which a label of it fits, if there is one")
    private static void labelAllInOrder() {
        LineDiagram x = Check.of(HEAD + "line a size 6 stops 2 at 1 2 at 9 2;line b size 3 stops 2 at 10 1 at 10 0;");
        due("labelAll()", x.labelAll(), 3);
        due("position of (10, 0)", x.position(1, 1), 1);
        due("position of (10, 1)", x.position(1, 0), 1);
        due("position of (1, 2), as columns 7 to 9 of row 1 are taken", x.position(0, 0), 3);
        due("position of (9, 2)", x.position(0, 1), -2);
        due("stuck()", x.stuck(), 1);
        // in one row, by the columns: (1, 3) takes columns 2 and 3, which (4, 3) would like too
        x = Check.of(HEAD + "line r size 2 stops 2 at 4 3 at 7 3;line l size 2 stops 2 at 1 3 at 1 6;");
        due("labelAll()", x.labelAll(), 4);
        due("position of (1, 3)", x.position(1, 0), 0);
        due("position of (4, 3)", x.position(0, 0), 2);
    }

    @Says(in = "Terms 3", words = "the places that have no label")
    private static void labelAllLeavesLabels() {
        LineDiagram x = Check.of(HEAD + "line a size 2 stops 2 at 5 3 at 9 3;");
        x.label(0, 0, 7);
        due("labelAll()", x.labelAll(), 1);
        due("position of what had one", x.position(0, 0), 7);
        due("labelAll() when all have one", x.labelAll(), 0);
        due("labelAll() without places", new LineDiagram().labelAll(), 0);
    }

    // ---- 4. crossings

    @Says(in = "Terms 4", words = "Two different lines cross at a cell of both that is no place")
    private static void crossingsAreNoPlaces() {
        String cross = "board 9 9 turn 3;line a size 1 stops 2 at 0 4 at 8 4;line b size 1 stops 2 at 4 0 at 4 8;";
        LineDiagram x = Check.of(cross);
        due("crossings", x.value(9), 1);
        due("crossing(0)", x.crossing(0), 64 * 4 + 4);
        due("setStops of one line", x.setStops(0, 3), 0);
        due("crossings at its station", x.value(9), 0);
        due("both(0, 1, 2)", x.both(0, 1, 2), 0);
        x = Check.of(cross + "line c size 1 stops 2 at 4 4 at 8 8;");
        due("crossings at a place of a third line", x.value(9), 0);
        due("both(0, 1, 2)", x.both(0, 1, 2), 0);
        // a line that comes again to a cell does not cross itself
        x = Check.of("board 9 9 turn 3;line a size 1 stops 2 at 0 4 at 8 4 at 8 0 at 4 0 at 4 8;");
        due("crossings of one line", x.value(9), 0);
        due("what it is", x.at(4, 4), 2);
    }

    @Says(in = "Terms 4", words = "(also where they run side by side, or one of them ends)")
    private static void crossingsSideBySide() {
        LineDiagram x = Check.of("board 12 8 turn 2;line a size 1 stops 2 at 0 2 at 7 2;line b size 1 stops 2 at 4 2 at 11 2;");
        // 4 to 7 are of both; both ends are stations, so places
        due("crossings", x.value(9), 2);
        due("crossing(0)", x.crossing(0), 64 * 2 + 5);
        due("crossing(1)", x.crossing(1), 64 * 2 + 6);
        due("crossing(2)", x.crossing(2), -2);
        due("at an end", x.at(4, 2), 3);
        x = Check.of("board 4 4 turn 2;line a size 1 stops 2 at 0 2 at 0 0 at 2 0;line b size 1 stops 2 at 0 3 at 0 0 at 3 0;");
        due("crossings around the first cell", x.value(9), 3);
        due("crossing(0)", x.crossing(0), 0);
    }

    @Says(in = "Terms 4", words = "if one has a step from (x, y) to (x + 1, y + 1), or back, and the other one a step from (x + 1, y) to (x, y + 1), or back")
    private static void crossingsBetweenCells() {
        String[] falling = {"1 1 at 4 4", "4 4 at 1 1"}, rising = {"4 1 at 1 4", "1 4 at 4 1"};
        for (String one : falling) {
            for (String other : rising) {
                LineDiagram x = Check.of("board 6 6 turn 3;line a size 1 stops 2 at " + one + ";line b size 1 stops 2 at " + other + ";");
                due("crossings between cells of " + one + " and " + other, x.value(10), 1);
                due("crossings at cells", x.value(9), 0);
                x = Check.of("board 6 6 turn 3;line a size 1 stops 2 at " + other + ";line b size 1 stops 2 at " + one + ";");
                due("crossings between cells of " + other + " and " + one, x.value(10), 1);
            }
        }
        String first = "board 4 4 turn 2;line a size 1 stops 2 at 0 0 at 1 1;line b size 1 stops 2 at 1 0 at 0 1;";
        due("crossings in the first corner", Check.of(first).value(10), 1);
        String last = "board 40 40 turn 2;line a size 1 stops 2 at 38 38 at 39 39;line b size 1 stops 2 at 39 38 at 38 39;";
        due("crossings in the last corner", Check.of(last).value(10), 1);
        due("crossings of a line with itself", Check.of("board 6 6 turn 3;line a size 1 stops 2 at 1 1 at 4 4 at 4 1 at 1 4;").value(10), 0);
        due("crossings of level and upright steps", Check.of("board 6 6 turn 3;line a size 1 stops 2 at 1 1 at 2 1;"
            + "line b size 1 stops 2 at 1 2 at 2 2;line c size 1 stops 2 at 1 1 at 1 2;line d size 1 stops 2 at 2 1 at 2 2;").value(10), 0);
        due("crossings of two that fall", Check.of("board 6 6 turn 3;line a size 1 stops 2 at 1 1 at 4 4;"
            + "line b size 1 stops 2 at 1 1 at 3 3;").value(10), 0);
    }

    @Says(in = "Terms 4", words = "They run side by side on a step that both have (in either direction)")
    private static void sideBySide() {
        String[] ends = {"1 1 at 4 4", "1 4 at 4 1", "1 1 at 4 1", "1 1 at 1 4"};
        for (String there : ends) {
            String back = there.substring(7) + " at " + there.substring(0, 3);
            for (String other : new String[] {there, back}) {
                LineDiagram x = Check.of("board 6 6 turn 3;line a size 1 stops 2 at " + there + ";line b size 1 stops 2 at " + other + ";");
                due("steps side by side of " + there + " and " + other, x.value(11), 3);
                due("both(0, 1, 4)", x.both(0, 1, 4), 3);
            }
        }
        String corner = "board 4 4 turn 2;line a size 1 stops 2 at 0 0 at 1 %d;line b size 1 stops 2 at 1 %d at 0 0;";
        due("steps side by side from the first cell", Check.of(String.format(corner, 0, 0)).value(11), 1);
        due("steps side by side that slant from the first cell", Check.of(String.format(corner, 1, 1)).value(11), 1);
        // the same cells, but never the same step
        LineDiagram x = Check.of("board 6 6 turn 3;line a size 1 stops 2 at 1 1 at 2 1;line b size 1 stops 2 at 2 1 at 3 1;");
        due("steps that only touch", x.value(11), 0);
        x = Check.of("board 6 6 turn 3;line a size 1 stops 2 at 1 1 at 4 4;line b size 1 stops 2 at 4 1 at 1 4;");
        due("steps that cross", x.value(11), 0);
    }

    // ---- 6. calls

    @Says(in = "Terms 6", words = "A line, point, station (of its line), cell or POSITION argument is valid if there is one")
    private static void validArguments() {
        LineDiagram x = Check.of(BENT + "line b size 1 stops 4 at 0 7 at 11 7;");
        due("the last line", x.line(1, 0), 2);
        due("one line beyond", x.line(2, 0), -1);
        due("the last point", x.point(0, 2, true), 8);
        due("one point beyond, though b's number of points is less", x.point(0, 3, true), -1);
        due("a point that only the other line has", x.point(1, 2, true), -1);
        due("the last station", x.station(1, 3, 0), 11);
        due("one station beyond", x.station(1, 4, 0), -1);
        due("a station that only the other line has", x.station(0, 3, 0), -1);
        due("the last cell", x.at(11, 7), 3);
        due("one column beyond", x.at(12, 7), -1);
        due("one row beyond", x.at(11, 8), -1);
        due("the last POSITION", x.why(0, 0, 7), 0);
        due("one POSITION beyond", x.why(0, 0, 8), -1);
        due("ahead of the first POSITION", x.why(0, 0, -1), -1);
    }

    @Says(in = "Terms 6", words = "A call with an invalid argument returns INVALID (or false, 0) and changes nothing")
    private static void invalidArgumentsChangeNothing() {
        LineDiagram x = Check.of(BENT);
        x.label(0, 0, 2);
        x.keep(0);
        Check.write(x, "boa");
        String picture = Check.picture(x);
        int[] answers = {x.moveBend(1, 0, 0, 1), x.moveBend(0, 3, 0, 1), x.moveBend(0, 0, 12, 1), x.insert(0, 4, 9, 5),
            x.insert(0, 0, 0, 8), x.removePoint(0, 3), x.reverse(1), x.setStops(0, 1), x.setSize(0, 11), x.label(0, 3, 2),
            x.label(0, 0, 8), x.unlabel(1, 0), x.dodge(0, 3), x.keep(2), x.restore(2), x.truncate(4), x.ifMoved(0, 2, 9, 5, 4)};
        for (int i = 0; i < answers.length; i++) {
            due("call " + i, answers[i], -1);
        }
        CHECK.due("picture", Check.picture(x), picture);
        due("tapeLength()", x.tapeLength(), 3);
        due("restore(0)", x.restore(0), 1);
        due("restore(1)", x.restore(1), -2);
        due("undo()", x.undo(), 1);
        due("undo()", x.undo(), 0);
    }

    @Says(in = "Terms 6", words = "this is checked before any other special result")
    private static void invalidComesFirst() {
        LineDiagram x = Check.of(TEN + "line b size 1 stops 4 at 0 4 at 3 4;");
        due("insert into a line of ten, off the board", x.insert(0, 0, 12, 0), -1);
        due("insert into a line of ten, behind the end", x.insert(0, 11, 10, 0), -1);
        due("removePoint of a line of two, behind the end", x.removePoint(1, 2), -1);
        due("moveBend crooked and off the board", x.moveBend(1, 1, 2, 8), -1);
        due("insert crooked and off the board", x.insert(1, 1, -1, 7), -1);
        due("setStops too many and short", x.setStops(1, 21), -1);
        due("label that does not fit in POSITION 8", x.label(1, 0, 8), -1);
        due("unlabel of a station that is none", x.unlabel(1, 4), -1);
        due("dodge of a station that is none", x.dodge(1, 4), -1);
        due("restore of an empty slot that is none", x.restore(2), -1);
        due("turn of a point that is none", x.turn(1, 2), -1);
        due("position of a station that is none", x.position(1, 4), -1);
        due("labelAt off the board", x.labelAt(12, 0), -1);
        due("rides to a line that is none", x.rides(0, 0, 2, 0), -1);
        due("changes to a station that is none", x.changes(0, 0, 1, 4), -1);
        due("ifMoved to where it is, any other what", x.ifMoved(1, 1, 3, 4, 4), -1);
        due("ifMoved crooked, any other what", x.ifMoved(1, 1, 2, 6, -1), -1);
        due("bestMove of a point that is none", x.bestMove(1, 2), -1);
        x = new LineDiagram();
        due("nearest without places, off the board", x.nearest(20, 0), -1);
        due("crossing(-1) without crossings", x.crossing(-1), -1);
        due("named(0) without lines", x.named(0), -1);
        due("pictureByte(-1)", x.pictureByte(-1), -1);
        due("setupByte(-1)", x.setupByte(-1), -1);
    }

    @Says(in = "Terms 6", words = "refused with CROOKED if a line would not run as section 1 tells, or with SHORT if it would have fewer than STOPS less 1 steps, in this order")
    private static void crookedAheadOfShort() {
        LineDiagram x = Check.of(HEAD + "line a size 1 stops 5 at 0 0 at 4 0;");
        due("moveBend crooked, not short", x.moveBend(0, 1, 5, 6), -3);
        due("moveBend short, not crooked", x.moveBend(0, 1, 3, 3), -4);
        due("moveBend crooked and short", x.moveBend(0, 1, 3, 1), -3);
        due("ifMoved crooked and short", x.ifMoved(0, 1, 3, 1, 3), -3);
        due("setStops short", x.setStops(0, 6), -4);
        x = Check.of("board 9 9 turn 2;line a size 1 stops 8 at 2 2 at 4 2 at 4 5 at 1 5;");
        due("removePoint crooked and short", x.removePoint(0, 1), -3);
        x = Check.of("board 9 9 turn 2;line a size 1 stops 4 at 2 2 at 2 3 at 4 3;");
        due("removePoint crooked and short: (2, 2) to (4, 3)", x.removePoint(0, 1), -3);
        due("removePoint short", x.removePoint(0, 0), -4);
        due("undo() of what was refused", x.undo(), -1);
    }

    @Says(in = "Terms 6", words = "Operations are the calls of moveBend(), insert(), removePoint(), reverse(), setStops(), setSize(), label(), unlabel(), dodge(), labelAll() and restore() that return 0 or more")
    private static void operationsThatReturnZero() {
        for (int i = 0; i < 11; i++) {
            LineDiagram x = Check.of(HEAD + "line a size 1 stops 2 at 5 3 at 3 3 at 1 3;line b size 1 stops 2 at 5 6 at 1 6;");
            int before = i == 7 ? x.label(0, 0, 0) : x.keep(0);
            String picture = Check.picture(x), setup = Check.setup(x);
            int answer;
            switch (i) {
                case 0: answer = x.moveBend(0, 2, 0, 3); break;
                case 1: answer = x.insert(0, 1, 4, 3); break;
                case 2: answer = x.removePoint(0, 1); break;
                case 3: answer = x.reverse(0); break;
                case 4: answer = x.setStops(0, 3); break;
                case 5: answer = x.setSize(0, 2); break;
                case 6: answer = x.label(0, 0, 0) - 1; break;
                case 7: answer = x.unlabel(0, 0); break;
                case 8: answer = x.dodge(0, 0); break;
                case 9: answer = x.labelAll() - 4; break;
                default: answer = x.restore(0);
            }
            due("operation " + i, answer, 0);
            due("undo() behind it", x.undo(), before);
            CHECK.due("picture behind that", Check.picture(x), picture);
            CHECK.due("setup behind that", Check.setup(x), setup);
        }
        LineDiagram x = Check.of(BENT);
        due("labelAll()", x.labelAll(), 3);
        due("labelAll() that brings none", x.labelAll(), 0);
        due("undo() of that", x.undo(), 1);
        due("labels", x.value(6), 3);
        due("undo() of the first one", x.undo(), 0);
        due("labels", x.value(6), 0);
    }

    @Says(in = "Terms 6", words = "that return 0 or more")
    private static void refusedCallsAreNoOperations() {
        LineDiagram x = Check.of(BENT);
        x.setSize(0, 3);
        int[] refused = {x.moveBend(0, 1, 5, 1), x.moveBend(0, 2, 9, 4), x.insert(0, 1, 2, 3), x.removePoint(0, 1), x.reverse(1),
            x.setStops(0, 3), x.setStops(0, 9), x.setSize(0, 3), x.label(0, 0, 0), x.label(0, 0, 1), x.unlabel(0, 0),
            x.dodge(0, 3), x.restore(0)};
        for (int i = 0; i < refused.length; i++) {
            due("call " + i + " is refused", refused[i] < 0 ? 1 : 0, 1);
        }
        due("undo() of the one operation", x.undo(), 0);
        due("its SIZE", x.line(0, 2), 2);
        due("undo()", x.undo(), -1);
    }

    @Says(in = "Terms 6", words = "The latest 8 of them can be undone")
    private static void latestEight() {
        for (int many : new int[] {7, 8, 9, 16, 17, 23}) {
            LineDiagram x = Check.of(BENT);
            for (int i = 1; i <= many; i++) {
                x.setSize(0, 2 + i % 2);
                x.moveBend(0, 0, i % 2, 1);
            }
            // two operations each, but for the first move to where it is
            int size = x.line(0, 2), column = x.point(0, 0, true);
            for (int left = 7; left >= 0; left--) {
                due("undo() of " + many, x.undo(), left);
                if (left % 2 == 1) {
                    column = 1 - column;
                } else {
                    size = 5 - size;
                }
                due("size", x.line(0, 2), size);
                due("column", x.point(0, 0, true), column);
            }
            due("undo() of a ninth", x.undo(), -1);
        }
        LineDiagram x = Check.of(BENT);
        for (int size = 3; size <= 10; size++) {
            x.setSize(0, size);
        }
        for (int left = 7; left >= 0; left--) {
            due("undo() of eight", x.undo(), left);
        }
        due("size behind eight", x.line(0, 2), 2);
        due("undo() of a ninth", x.undo(), -1);
    }

    @Says(in = "Terms 6", words = "undo() leaves the slots, the tape and the error position as they are")
    private static void whatUndoLeaves() {
        LineDiagram x = Check.of(BENT);
        x.load();
        x.setSize(0, 3);
        x.keep(0);
        x.setSize(0, 4);
        x.keep(1);
        Check.write(x, "board");
        due("undo()", x.undo(), 1);
        due("undo()", x.undo(), 0);
        due("tapeLength()", x.tapeLength(), 5);
        due("errorPosition()", x.errorPosition(), 0);
        due("restore(0)", x.restore(0), 0);
        due("size in slot 0", x.line(0, 2), 3);
        due("restore(1)", x.restore(1), 0);
        due("size in slot 1", x.line(0, 2), 4);
    }

    @Says(in = "Terms 6", words = "`INVALID = -1`")
    private static void constants() {
        due("INVALID", LineDiagram.INVALID, -1);
        due("NOT_FOUND", LineDiagram.NOT_FOUND, -2);
        due("CROOKED", LineDiagram.CROOKED, -3);
        due("SHORT", LineDiagram.SHORT, -4);
        due("OFF", LineDiagram.OFF, -5);
        due("ON_LINE", LineDiagram.ON_LINE, -6);
        due("ON_LABEL", LineDiagram.ON_LABEL, -7);
    }
}
