/** Promises 19 to 32: what the lines and stations are, where they cross, and how one comes along. */
public final class NumbersTest {
    private static final Check CHECK = new Check("NumbersTest");
    private static final String STAR = "board 12 8 turn 3;line a size 1 stops 3 at 0 0 at 6 6;"
        + "line b size 2 stops 2 at 7 0 at 0 7;line c size 3 stops 2 at 0 1 at 8 1;";
    private static final String SIDES = "board 12 8 turn 3;line a size 1 stops 2 at 0 2 at 6 2;"
        + "line b size 1 stops 2 at 4 2 at 9 2;line c size 1 stops 2 at 8 2 at 3 2;";
    private static final String NET = "board 12 8 turn 3;line a size 1 stops 3 at 0 0 at 8 0;"
        + "line b size 1 stops 4 at 4 0 at 4 6;line c size 1 stops 3 at 0 6 at 8 6;line d size 1 stops 2 at 10 0 at 10 6;";
    private static final String LOOP = "board 12 8 turn 2;line a size 2 stops 5 at 1 1 at 5 1 at 5 5 at 1 5 at 1 1;";

    public static void main(String[] args) {
        values();
        valuesOfSides();
        crossingsBetween();
        lines();
        pointsAndTurns();
        stations();
        cells();
        uneven();
        crookedest();
        nearest();
        both();
        crossing();
        corners();
        travel();
        eightLines();
        bothBehindChanges();
        wrongStations();
        CHECK.end();
    }

    private static void values(String text, int... wanted) {
        LineDiagram x = Check.of(text);
        for (int i = 0; i < wanted.length; i++) {
            CHECK.due("value(" + i + ") of " + text, x.value(i), wanted[i]);
        }
        for (int what : new int[] {-1, 12, Integer.MIN_VALUE, Integer.MAX_VALUE}) {
            CHECK.due("value(" + what + ")", x.value(what), -1);
        }
    }

    private static void values() {
        values(STAR, 12, 8, 3, 3, 7, 7, 0, 22, 0, 2, 1, 0);
        values(NET, 12, 8, 3, 4, 12, 10, 0, 9 + 6 + 8 + 7, 0, 0, 0, 0);
        values(LOOP, 12, 8, 2, 1, 5, 4, 0, 16, 0, 0, 0, 0);
        LineDiagram x = Check.of(NET);
        x.label(0, 0, 3);
        x.label(1, 2, 0);
        CHECK.due("value(6)", x.value(6), 2);
        CHECK.due("value(8)", x.value(8), 1 + 3);
    }

    private static void valuesOfSides() {
        values(SIDES, 12, 8, 3, 3, 6, 6, 0, 10, 0, 2, 0, 2 + 3 + 4);
        // a line that goes over a step of its own is not beside itself, and counts once beside another one
        String twice = "board 9 9 turn 2;line a size 1 stops 2 at 1 1 at 4 1 at 4 4 at 1 4 at 1 1 at 4 1;"
            + "line b size 1 stops 2 at 0 1 at 3 1;";
        LineDiagram x = Check.of(twice);
        CHECK.due("value(11)", x.value(11), 2);
        CHECK.due("value(7)", x.value(7), 13);
        CHECK.due("line(0, 3)", x.line(0, 3), 15);
    }

    private static void crossingsBetween() {
        String falling = "line %s size 1 stops 2 at 1 1 at 4 4;", rising = "line %s size 1 stops 2 at 4 1 at 1 4;";
        String head = "board 9 9 turn 3;";
        LineDiagram x = Check.of(head + String.format(falling, "a") + String.format(rising, "b"));
        CHECK.due("value(10) of two", x.value(10), 1);
        CHECK.due("value(9) of two", x.value(9), 0);
        x.reverse(0);
        CHECK.due("value(10) of one turned round", x.value(10), 1);
        x.reverse(1);
        CHECK.due("value(10) of both turned round", x.value(10), 1);
        x = Check.of(head + String.format(falling, "a") + String.format(falling, "b") + String.format(rising, "c"));
        CHECK.due("value(10) of three", x.value(10), 2);
        CHECK.due("both(0, 1, 3)", x.both(0, 1, 3), 0);
        CHECK.due("both(0, 2, 3)", x.both(0, 2, 3), 1);
        // both lines have both steps between the four cells: a pair counts once
        String bow = " size 1 stops 2 at 1 1 at 4 4 at 4 1 at 1 4;";
        x = Check.of(head + "line a" + bow + "line b" + bow);
        CHECK.due("value(10) of two bows", x.value(10), 1);
        x = Check.of(head + "line a" + bow);
        CHECK.due("value(10) of one bow", x.value(10), 0);
        x = Check.of(head + "line a" + bow + String.format(rising, "b"));
        CHECK.due("value(10) of a bow and a rising line", x.value(10), 1);
        // steps over a cell, and steps that only touch, do not cross between cells
        x = Check.of(head + "line a size 1 stops 2 at 0 0 at 4 4;line b size 1 stops 2 at 4 0 at 0 4;");
        CHECK.due("value(10) through a cell", x.value(10), 0);
        CHECK.due("value(9) through a cell", x.value(9), 1);
    }

    private static void line(LineDiagram x, int line, int... wanted) {
        for (int i = 0; i < wanted.length; i++) {
            CHECK.due("line(" + line + ", " + i + ")", x.line(line, i), wanted[i]);
        }
        CHECK.due("line(" + line + ", 9)", x.line(line, 9), -1);
        CHECK.due("line(" + line + ", -1)", x.line(line, -1), -1);
    }

    private static void lines() {
        line(Check.of(STAR), 0, 2, 3, 1, 6, 0, 0, 0, 6, 1);
        line(Check.of(STAR), 1, 2, 2, 2, 7, 0, 0, 0, 7, 1);
        line(Check.of(STAR), 2, 2, 2, 3, 8, 0, 0, 0, 0, 2);
        line(Check.of(LOOP), 0, 5, 5, 2, 16, 3, 2, 6, 0, 0);
        line(Check.of("board 12 8 turn 3;line z size 10 stops 4 at 0 0 at 2 0 at 4 0 at 4 3 at 1 0;"), 0, 5, 4, 10, 2 + 2 + 3 + 3, 2, 3, 5, 3, 0);
        CHECK.due("line(-1, 0)", Check.of(STAR).line(-1, 0), -1);
        CHECK.due("line(3, 0)", Check.of(STAR).line(3, 0), -1);
        CHECK.due("line(0, 0) of a new object", new LineDiagram().line(0, 0), -1);
    }

    private static void pointsAndTurns() {
        LineDiagram x = Check.of("board 12 8 turn 3;line a size 1 stops 2 at 0 0 at 2 0 at 4 0 at 6 2 at 6 4 at 4 2;");
        int[][] points = {{0, 0}, {2, 0}, {4, 0}, {6, 2}, {6, 4}, {4, 2}};
        int[] turns = {-2, 0, 1, 1, 3, -2};
        for (int i = 0; i < points.length; i++) {
            CHECK.due("point(0, " + i + ", true)", x.point(0, i, true), points[i][0]);
            CHECK.due("point(0, " + i + ", false)", x.point(0, i, false), points[i][1]);
            CHECK.due("turn(0, " + i + ")", x.turn(0, i), turns[i]);
        }
        // from way 7 to way 0 is an eighth, as the other way round
        CHECK.due("turn over 7", Check.of("board 9 9 turn 1;line a size 1 stops 2 at 0 4 at 2 2 at 4 2;").turn(0, 1), 1);
        CHECK.due("turn from 1 to 6", Check.of("board 9 9 turn 3;line a size 1 stops 2 at 0 2 at 2 4 at 2 0;").turn(0, 1), 3);
        for (int[] wrong : new int[][] {{-1, 0}, {1, 0}, {0, -1}, {0, 6}}) {
            CHECK.due("point", x.point(wrong[0], wrong[1], true), -1);
            CHECK.due("point", x.point(wrong[0], wrong[1], false), -1);
            CHECK.due("turn", x.turn(wrong[0], wrong[1]), -1);
        }
    }

    private static void station(LineDiagram x, int line, int station, int... wanted) {
        for (int i = 0; i < wanted.length; i++) {
            CHECK.due("station(" + line + ", " + station + ", " + i + ")", x.station(line, station, i), wanted[i]);
        }
        CHECK.due("station(" + line + ", " + station + ", 6)", x.station(line, station, 6), -1);
        CHECK.due("station(" + line + ", " + station + ", -1)", x.station(line, station, -1), -1);
    }

    private static void stations() {
        LineDiagram x = Check.of("board 12 8 turn 3;line a size 2 stops 4 at 1 1 at 5 1 at 8 4;line b size 9 stops 2 at 3 1 at 3 7;");
        station(x, 0, 0, 1, 1, 0, 0, 2, 1);
        station(x, 0, 1, 3, 1, 2, 0, 3, 2);
        station(x, 0, 2, 5, 1, 4, 0, 4, 1);
        station(x, 0, 3, 8, 4, 7, 1, 2, 1);
        station(x, 1, 0, 3, 1, 0, 2, 9, 2);
        station(x, 1, 1, 3, 7, 6, 2, 10, 1);
        x = Check.of(LOOP);
        station(x, 0, 0, 1, 1, 0, 0, 2, 2);
        station(x, 0, 1, 5, 1, 4, 0, 3, 1);
        station(x, 0, 2, 5, 5, 8, 2, 4, 1);
        station(x, 0, 3, 1, 5, 12, 4, 2, 1);
        station(x, 0, 4, 1, 1, 16, 6, 3, 2);
        int[][] ends = {{6, 3}, {6, 6}, {3, 6}, {0, 6}, {0, 3}, {0, 0}, {3, 0}, {6, 0}};
        for (int way = 0; way < 8; way++) {
            x = Check.of("board 7 7 turn 0;line a size 1 stops 4 at 3 3 at " + ends[way][0] + " " + ends[way][1] + ";");
            CHECK.due("station(0, 0, 3) of way " + way, x.station(0, 0, 3), way);
            CHECK.due("station(0, 2, 3) of way " + way, x.station(0, 2, 3), way);
        }
    }

    private static void cells() {
        LineDiagram x = Check.of(STAR);
        x.label(1, 0, 0);
        CHECK.due("at a place", x.at(3, 3), 3);
        CHECK.due("at a line", x.at(4, 4), 2);
        CHECK.due("at a crossing", x.at(1, 1), 2);
        CHECK.due("at a label", x.at(9, 0), 1);
        CHECK.due("at nothing", x.at(10, 0), 0);
        CHECK.due("linesAt(1, 1)", x.linesAt(1, 1), 5);
        CHECK.due("linesAt(6, 1)", x.linesAt(6, 1), 6);
        CHECK.due("linesAt(0, 0)", x.linesAt(0, 0), 1);
        CHECK.due("linesAt(9, 0)", x.linesAt(9, 0), 0);
        for (int[] off : new int[][] {{-1, 0}, {12, 0}, {0, -1}, {0, 8}, {Integer.MAX_VALUE, Integer.MIN_VALUE}}) {
            CHECK.due("at off the board", x.at(off[0], off[1]), -1);
            CHECK.due("linesAt off the board", x.linesAt(off[0], off[1]), -1);
            CHECK.due("nearest off the board", x.nearest(off[0], off[1]), -1);
        }
        CHECK.due("at the last cell", x.at(11, 7), 0);
    }

    private static void uneven() {
        LineDiagram x = Check.of("board 12 8 turn 3;line a size 2 stops 4 at 1 1 at 5 1 at 8 4;line b size 9 stops 2 at 3 1 at 3 7;");
        CHECK.due("uneven(0): 2, 2 and 3 steps", x.uneven(0), 1);
        CHECK.due("uneven(1)", x.uneven(1), 0);
        x.setStops(0, 8);
        CHECK.due("uneven(0) of one step each", x.uneven(0), 0);
        CHECK.due("uneven(-1)", x.uneven(-1), -1);
        CHECK.due("uneven(2)", x.uneven(2), -1);
    }

    private static void crookedest() {
        CHECK.due("crookedest without lines", new LineDiagram().crookedest(), -2);
        CHECK.due("crookedest of straight lines", Check.of(STAR).crookedest(), 0);
        String bent = "line %s size 1 stops 2 at 0 0 at 2 0 at 4 2 at 6 2;", sharp = "line %s size 1 stops 2 at 0 0 at 3 0 at 3 3;";
        LineDiagram x = Check.of("board 9 9 turn 2;line s size 1 stops 2 at 1 7 at 5 7;" + String.format(bent, "a") + String.format(sharp, "b"));
        CHECK.due("crookedest of two that turn alike", x.crookedest(), 1);
        x.removePoint(1, 3);
        CHECK.due("crookedest behind a change", x.crookedest(), 2);
    }

    private static void nearest() {
        CHECK.due("nearest without places", new LineDiagram().nearest(0, 0), -2);
        LineDiagram x = Check.of("board 20 20 turn 2;line a size 1 stops 2 at 5 5 at 11 5;line b size 1 stops 2 at 5 11 at 11 11;");
        CHECK.due("nearest(5, 5)", x.nearest(5, 5), 64 * 5 + 5);
        CHECK.due("nearest(8, 8) of four alike", x.nearest(8, 8), 64 * 5 + 5);
        CHECK.due("nearest(9, 8) of two alike", x.nearest(9, 8), 64 * 5 + 11);
        CHECK.due("nearest(8, 9) of two alike", x.nearest(8, 9), 64 * 11 + 5);
        CHECK.due("nearest(19, 19)", x.nearest(19, 19), 64 * 11 + 11);
        CHECK.due("nearest(0, 9): 5 columns and 4 rows, or 5 and 2", x.nearest(0, 9), 64 * 5 + 5);
        x = Check.of("board 9 9 turn 2;line a size 1 stops 2 at 0 0 at 8 8;");
        CHECK.due("nearest(4, 4) of the first and the last cell", x.nearest(4, 4), 0);
        x = Check.of("board 40 40 turn 2;line a size 1 stops 2 at 39 39 at 39 38;");
        CHECK.due("nearest(0, 0) over the whole board", x.nearest(0, 0), 64 * 38 + 39);
        x = Check.of("board 40 40 turn 2;line a size 1 stops 2 at 39 39 at 38 39;");
        CHECK.due("nearest(39, 0) over the whole board", x.nearest(39, 0), 64 * 39 + 38);
    }

    private static void both(LineDiagram x, int a, int b, int... wanted) {
        for (int i = 0; i < wanted.length; i++) {
            CHECK.due("both(" + a + ", " + b + ", " + i + ")", x.both(a, b, i), wanted[i]);
            CHECK.due("both(" + b + ", " + a + ", " + i + ")", x.both(b, a, i), wanted[i]);
        }
    }

    private static void both() {
        LineDiagram x = Check.of(SIDES);
        both(x, 0, 1, 3, 0, 1, 0, 2);
        both(x, 0, 2, 4, 0, 1, 0, 3);
        both(x, 1, 2, 5, 0, 2, 0, 4);
        x = Check.of(STAR);
        both(x, 0, 1, 0, 0, 0, 1, 0);
        both(x, 0, 2, 1, 0, 1, 0, 0);
        x = Check.of(NET);
        both(x, 0, 1, 1, 1, 0, 0, 0);
        both(x, 1, 2, 1, 1, 0, 0, 0);
        both(x, 0, 3, 0, 0, 0, 0, 0);
        // a place of a third line takes a crossing away from two others
        x = Check.of("board 9 9 turn 2;line a size 1 stops 2 at 0 4 at 8 4;line b size 1 stops 2 at 4 0 at 4 8;");
        both(x, 0, 1, 1, 0, 1, 0, 0);
        CHECK.due("value(9)", x.value(9), 1);
        x = Check.of("board 9 9 turn 2;line a size 1 stops 2 at 0 4 at 8 4;line b size 1 stops 2 at 4 0 at 4 8;line c size 1 stops 2 at 4 4 at 8 8;");
        both(x, 0, 1, 1, 0, 0, 0, 0);
        both(x, 0, 2, 1, 0, 0, 0, 0);
        CHECK.due("value(9)", x.value(9), 0);
        // a cell where three lines cross counts once
        x = Check.of("board 9 9 turn 2;line a size 1 stops 2 at 0 4 at 8 4;line b size 1 stops 2 at 4 0 at 4 8;line c size 1 stops 2 at 0 0 at 8 8;");
        CHECK.due("value(9) of three", x.value(9), 1);
        for (int[] wrong : new int[][] {{0, 0, 0}, {1, 1, 1}, {-1, 0, 0}, {0, -1, 0}, {3, 0, 0}, {0, 3, 0}, {0, 1, -1}, {0, 1, 5}}) {
            CHECK.due("both", x.both(wrong[0], wrong[1], wrong[2]), -1);
        }
    }

    private static void crossing() {
        LineDiagram x = Check.of(STAR);
        CHECK.due("crossing(0)", x.crossing(0), 64 + 1);
        CHECK.due("crossing(1)", x.crossing(1), 64 + 6);
        CHECK.due("crossing(2)", x.crossing(2), -2);
        CHECK.due("crossing(-1)", x.crossing(-1), -1);
        CHECK.due("crossing(greatest int)", x.crossing(Integer.MAX_VALUE), -2);
        CHECK.due("crossing(least int)", x.crossing(Integer.MIN_VALUE), -1);
        x = Check.of(SIDES);
        CHECK.due("crossing(0)", x.crossing(0), 128 + 5);
        CHECK.due("crossing(1)", x.crossing(1), 128 + 7);
    }

    /** The rides and changes between two stations, there and back. */
    private static void way(LineDiagram x, int line, int station, int other, int to, int rides, int changes) {
        CHECK.due("rides", x.rides(line, station, other, to), rides);
        CHECK.due("rides back", x.rides(other, to, line, station), rides);
        CHECK.due("changes", x.changes(line, station, other, to), changes);
        CHECK.due("changes back", x.changes(other, to, line, station), changes);
    }

    /** Lines that meet in a corner of the board, or all around it. */
    private static void corners() {
        String bend = " size 1 stops 2 at 0 2 at 0 0 at 2 0;";
        LineDiagram x = Check.of("board 4 4 turn 2;line a" + bend + "line b size 1 stops 2 at 0 3 at 0 0 at 3 0;");
        CHECK.due("value(9)", x.value(9), 3);
        CHECK.due("value(11)", x.value(11), 4);
        CHECK.due("crossing(0)", x.crossing(0), 0);
        CHECK.due("crossing(2)", x.crossing(2), 64);
        CHECK.due("both(0, 1, 0)", x.both(0, 1, 0), 5);
        x = Check.of("board 4 4 turn 2;line a size 1 stops 2 at 0 0 at 3 3;line b size 1 stops 2 at 1 0 at 0 1;");
        CHECK.due("value(10) at the first cell", x.value(10), 1);
        x = Check.of("board 4 4 turn 2;line a size 1 stops 2 at 0 0 at 0 3;line b size 1 stops 2 at 0 0 at 3 0;");
        CHECK.due("line(0, 8)", x.line(0, 8), 1);
        CHECK.due("both(0, 1, 1)", x.both(0, 1, 1), 1);
        CHECK.due("value(7)", x.value(7), 7);
        x = Check.of("board 40 40 turn 2;line a size 1 stops 2 at 39 39 at 38 38;line b size 1 stops 2 at 38 39 at 39 38;");
        CHECK.due("value(10) at the last cell", x.value(10), 1);
        x = Check.of("board 40 40 turn 2;line a size 1 stops 2 at 39 37 at 39 39 at 37 39;line b size 1 stops 2 at 39 36 at 39 39 at 36 39;");
        CHECK.due("value(9)", x.value(9), 3);
        CHECK.due("crossing(2)", x.crossing(2), 64 * 39 + 39);
        CHECK.due("value(11)", x.value(11), 4);
        CHECK.due("nearest(0, 39)", x.nearest(0, 39), 64 * 39 + 36);
    }

    private static void travel() {
        LineDiagram x = Check.of(NET);
        way(x, 0, 0, 0, 0, 0, 0);
        way(x, 0, 0, 0, 2, 2, 0);
        way(x, 0, 0, 2, 2, 5, 2);
        way(x, 0, 0, 1, 3, 4, 1);
        way(x, 0, 1, 1, 0, 0, 0);
        way(x, 0, 1, 2, 1, 3, 0);
        way(x, 0, 1, 2, 0, 4, 1);
        way(x, 0, 0, 3, 0, -2, -2);
        way(x, 3, 0, 3, 1, 1, 0);
        x = Check.of(LOOP);
        way(x, 0, 0, 0, 4, 0, 0);
        way(x, 0, 1, 0, 3, 2, 0);
        way(x, 0, 0, 0, 3, 1, 0);
        // many rides without a change, or few with two: each is the least by itself
        x = Check.of("board 20 9 turn 2;line a size 1 stops 13 at 0 0 at 12 0;line b size 1 stops 2 at 1 0 at 1 4;"
            + "line c size 1 stops 2 at 1 4 at 7 4 at 11 0;");
        way(x, 0, 0, 0, 12, 4, 0);
        way(x, 0, 0, 2, 0, 2, 1);
    }

    /** Eight lines side by side, each one with places of its own, and a bridge from the first to the last. */
    private static void eightLines() {
        StringBuilder text = new StringBuilder("board 20 12 turn 2;");
        for (int i = 0; i < 7; i++) {
            text.append("line ").append((char) ('a' + i)).append(" size 1 stops 3 at ").append(2 * i).append(" 1 at ").append(2 * i).append(" 7;");
        }
        LineDiagram x = Check.of(text + "line h size 1 stops 2 at 0 7 at 12 7;");
        CHECK.due("value(3)", x.value(3), 8);
        CHECK.due("value(4)", x.value(4), 7 * 3 + 2);
        CHECK.due("value(5)", x.value(5), 7 * 3);
        CHECK.due("linesAt(12, 7)", x.linesAt(12, 7), 64 + 128);
        CHECK.due("named(h)", x.named(Check.letters("h")), 7);
        CHECK.due("named(i)", x.named(Check.letters("i")), -2);
        way(x, 0, 0, 6, 0, 5, 2);
        way(x, 0, 0, 7, 1, 3, 1);
        way(x, 0, 0, 3, 2, -2, -2);
        CHECK.due("line(7, 8)", x.line(7, 8), 7);
        CHECK.due("rides to line 8", x.rides(0, 0, 8, 0), -1);
    }

    /** Places of both lines that a change takes away. */
    private static void bothBehindChanges() {
        LineDiagram x = Check.of("board 12 8 turn 2;line a size 1 stops 3 at 0 4 at 8 4;line b size 1 stops 4 at 4 0 at 4 6;");
        CHECK.due("both(0, 1, 1)", x.both(0, 1, 1), 1);
        way(x, 0, 0, 1, 0, 3, 1);
        x.setStops(1, 2);
        CHECK.due("both(0, 1, 1) behind setStops", x.both(0, 1, 1), 0);
        way(x, 0, 0, 1, 0, -2, -2);
    }

    private static void wrongStations() {
        LineDiagram x = Check.of(NET);
        for (int[] w : new int[][] {{-1, 0}, {4, 0}, {0, -1}, {0, 3}, {Integer.MIN_VALUE, Integer.MAX_VALUE}}) {
            CHECK.due("station", x.station(w[0], w[1], 0), -1);
            CHECK.due("rides from", x.rides(w[0], w[1], 0, 0), -1);
            CHECK.due("rides to", x.rides(3, 0, w[0], w[1]), -1);
            CHECK.due("changes from", x.changes(w[0], w[1], 0, 0), -1);
            CHECK.due("changes to", x.changes(3, 0, w[0], w[1]), -1);
        }
    }
}
