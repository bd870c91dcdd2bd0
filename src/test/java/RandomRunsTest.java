import java.util.ArrayList;
import java.util.List;

/**
 * Holds the program against Model in runs of calls that a fixed row of numbers chooses. The first
 * argument, if there is one, is how many runs there are; the second one where the row begins.
 */
public final class RandomRunsTest {
    private static final Check CHECK = new Check("RandomRunsTest");
    static final int RUNS = 1200;
    /** What is answered by an object after so many calls is free. */
    static final int MOST_CALLS = 512;
    /** The most calls that one choice takes: a text of 1000 bytes, with what stands around it. */
    private static final int MOST_AT_ONCE = 60;
    private static long seed;

    /** A number from 0 to n - 1. */
    private static int pick(int n) {
        seed = seed * 6364136223846793005L + 1442695040888963407L;
        return (int) ((seed >>> 33) % n);
    }

    private static int between(int least, int most) {
        return least + pick(most - least + 1);
    }

    private final LineDiagram x = new LineDiagram();
    private final Model m = new Model();
    private final List<String> calls = new ArrayList<>();

    public static void main(String[] args) {
        int runs = args.length > 0 ? Integer.parseInt(args[0]) : RUNS;
        long begin = args.length > 1 ? Long.parseLong(args[1]) : 1;
        for (int run = 0; run < runs; run++) {
            seed = begin + run;
            pick(2);
            new RandomRunsTest().run(run);
        }
        CHECK.end();
    }

    private void due(String call, double got, double want) {
        calls.add(call + " -> " + want);
        CHECK.due(call, got, want);
        if (got != want) {
            System.out.println(m.setup());
            for (String c : calls.subList(Math.max(0, calls.size() - 12), calls.size())) {
                System.out.println("    " + c);
            }
        }
    }

    /** All 512 calls of a new object: the setup, operations and questions, and bytes of both texts at last. */
    private void run(int number) {
        if (pick(20) > 0) {
            load(setup(number % 10 == 0));
        }
        while (calls.size() <= MOST_CALLS - MOST_AT_ONCE) {
            int kind = pick(100);
            if (kind < 1) {
                load(pick(2) == 0 ? broken() : setup(false));
            } else if (kind < 40) {
                operate();
            } else if (kind < 90) {
                ask();
            } else {
                askTexts();
            }
        }
        int left = MOST_CALLS - calls.size();
        setupBytes(left / 3);
        pictureBytes(MOST_CALLS - calls.size());
    }

    // ---- setup texts

    private String setup(boolean large) {
        int wide = large ? between(20, 40) : between(4, 14);
        int high = large ? between(20, 40) : between(4, 12);
        int turn = pick(4);
        StringBuilder text = new StringBuilder("board " + wide + " " + high + " turn " + turn + ";");
        int lines = large ? between(4, 8) : between(1, 5);
        for (int i = 0; i < lines; i++) {
            text.append(line((char) ('a' + i), wide, high, turn, large));
        }
        return text.length() > 1000 ? setup(large) : text.toString();
    }

    private String line(char name, int wide, int high, int turn, boolean large) {
        while (true) {
            int x = pick(wide), y = pick(high), way = pick(8), steps = 0;
            StringBuilder points = new StringBuilder(" at " + x + " " + y);
            int runs = pick(large ? 9 : 5) + 1;
            boolean good = true;
            for (int i = 0; i < runs && good; i++) {
                int far = between(1, large ? 12 : 7);
                x += far * Model.WAYS[way][0];
                y += far * Model.WAYS[way][1];
                steps += far;
                points.append(" at " + x + " " + y);
                way = Math.floorMod(way + between(-turn, turn), 8);
                good = x >= 0 && y >= 0 && x < wide && y < high;
            }
            if (good) {
                int stops = between(2, Math.max(2, Math.min(steps + 1, large ? 20 : 8)));
                return "line " + name + (pick(3) == 0 ? "z" : "") + " size " + (pick(2) == 0 ? between(1, 3) : between(1, 10))
                    + " stops " + (stops > steps + 1 ? 2 : stops) + points + ";";
            }
        }
    }

    /** A setup text with a few bytes or tokens that are not what they were. */
    private String broken() {
        StringBuilder text = new StringBuilder(setup(false));
        String[] pieces = {" ", "\n", ";", "a", "zz", "0", "7", "99", " at ", " 3", "line", "A", "\t", "turn", ".", "stops", "sizes", "abcdefg"};
        for (int i = between(1, 3); i > 0; i--) {
            int place = pick(text.length());
            if (pick(2) == 0 && text.length() > 1) {
                text.deleteCharAt(place);
            }
            if (pick(2) == 0 && place <= text.length()) {
                text.insert(place, pieces[pick(pieces.length)]);
            }
            if (pick(8) == 0) {
                text.setLength(Math.min(text.length(), place + 1));
            }
        }
        return text.toString();
    }

    private void load(String text) {
        int many = (text.length() + 19) / 20 * 20;
        byte[] bytes = new byte[many];
        for (int i = 0; i < text.length(); i++) {
            bytes[i] = (byte) text.charAt(i);
        }
        due("truncate(all)", x.truncate(m.tape.length()), m.truncate(m.tape.length()));
        for (int i = 0; i < many; i += 20) {
            int a = Check.four(bytes, i), b = Check.four(bytes, i + 4), c = Check.four(bytes, i + 8);
            int d = Check.four(bytes, i + 12), e = Check.four(bytes, i + 16);
            due("append", x.append(a, b, c, d, e), m.append(a, b, c, d, e));
        }
        due("truncate", x.truncate(many - text.length()), m.truncate(many - text.length()));
        due("tapeLength", x.tapeLength(), text.length());
        due("load(" + text + ")", x.load(), m.load());
        due("errorPosition", x.errorPosition(), m.error);
        due("tapeLength", x.tapeLength(), 0);
    }

    // ---- arguments, most of them valid

    private int aLine() {
        return m.now.lines.isEmpty() || pick(40) == 0 ? between(-1, 8) : pick(m.now.lines.size());
    }

    private int aPoint(int line) {
        return !m.isLine(line) || pick(40) == 0 ? between(-1, 10) : pick(m.now.lines.get(line).points.size());
    }

    private int aStation(int line) {
        return !m.isLine(line) || pick(40) == 0 ? between(-1, 20) : pick(m.now.lines.get(line).stops);
    }

    private int aColumn() {
        return pick(40) == 0 ? between(-1, m.wide) : pick(m.wide);
    }

    private int aRow() {
        return pick(40) == 0 ? between(-1, m.high) : pick(m.high);
    }

    /** A coordinate near that of a point, so that lines stay straight now and then. */
    private int near(int line, int point, boolean column) {
        if (!m.isPoint(line, point) || pick(4) == 0) {
            return column ? aColumn() : aRow();
        }
        return m.point(line, point, column) + between(-2, 2);
    }

    // ---- calls

    private void operate() {
        int line = aLine(), point = aPoint(line), station = aStation(line);
        int column = near(line, point, true), row = near(line, point, false);
        switch (pick(14)) {
            case 0:
            case 1:
                due(row("moveBend", line, point, column, row), x.moveBend(line, point, column, row), m.moveBend(line, point, column, row));
                break;
            case 2:
                point = pick(10) == 0 ? point : point + pick(2);
                due(row("insert", line, point, column, row), x.insert(line, point, column, row), m.insert(line, point, column, row));
                break;
            case 3:
                due(row("removePoint", line, point), x.removePoint(line, point), m.removePoint(line, point));
                break;
            case 4:
                due(row("reverse", line), x.reverse(line), m.reverse(line));
                break;
            case 5:
                int stops = pick(3) == 0 ? between(1, 21) : between(2, 7);
                due(row("setStops", line, stops), x.setStops(line, stops), m.setStops(line, stops));
                break;
            case 6:
                int size = pick(3) == 0 ? between(0, 11) : between(1, 4);
                due(row("setSize", line, size), x.setSize(line, size), m.setSize(line, size));
                break;
            case 7:
            case 8:
                int position = between(0, 7) - (pick(30) == 0 ? 7 : 0) + (pick(30) == 0 ? 7 : 0);
                due(row("label", line, station, position), x.label(line, station, position), m.label(line, station, position));
                break;
            case 9:
                due(row("unlabel", line, station), x.unlabel(line, station), m.unlabel(line, station));
                break;
            case 10:
                due(row("dodge", line, station), x.dodge(line, station), m.dodge(line, station));
                break;
            case 11:
                due("labelAll", x.labelAll(), m.labelAll());
                break;
            case 12:
                int slot = pick(10) == 0 ? between(-1, 2) : pick(2);
                if (pick(2) == 0) {
                    due(row("keep", slot), x.keep(slot), m.keep(slot));
                } else {
                    due(row("restore", slot), x.restore(slot), m.restore(slot));
                }
                break;
            default:
                for (int i = pick(20) == 0 ? 10 : pick(3) + 1; i > 0; i--) {
                    due("undo", x.undo(), m.undo());
                }
        }
    }

    private void ask() {
        int line = aLine(), point = aPoint(line), station = aStation(line);
        int other = aLine(), to = aStation(other), column = aColumn(), row = aRow();
        switch (pick(24)) {
            case 0:
            case 1:
                int v = between(-1, 12);
                due(row("value", v), x.value(v), m.value(v));
                break;
            case 2:
                int w = between(-1, 9);
                due(row("line", line, w), x.line(line, w), m.line(line, w));
                break;
            case 3:
                boolean c = pick(2) == 0;
                due(row("point", line, point), x.point(line, point, c), m.point(line, point, c));
                break;
            case 4:
                due(row("turn", line, point), x.turn(line, point), m.turn(line, point));
                break;
            case 5:
            case 6:
                int s = between(-1, 6);
                due(row("station", line, station, s), x.station(line, station, s), m.station(line, station, s));
                break;
            case 7:
                due(row("at", column, row), x.at(column, row), m.at(column, row));
                break;
            case 8:
                due(row("linesAt", column, row), x.linesAt(column, row), m.linesAt(column, row));
                break;
            case 9:
                due(row("uneven", line), x.uneven(line), m.uneven(line));
                break;
            case 10:
                due("crookedest", x.crookedest(), m.crookedest());
                break;
            case 11:
                due(row("nearest", column, row), x.nearest(column, row), m.nearest(column, row));
                break;
            case 12:
            case 13:
                int b = between(-1, 5);
                due(row("both", line, other, b), x.both(line, other, b), m.both(line, other, b));
                break;
            case 14:
                int i = between(-1, 6);
                due(row("crossing", i), x.crossing(i), m.crossing(i));
                break;
            case 15:
                due(row("rides", line, station, other, to), x.rides(line, station, other, to), m.rides(line, station, other, to));
                break;
            case 16:
                due(row("changes", line, station, other, to), x.changes(line, station, other, to), m.changes(line, station, other, to));
                break;
            case 17:
                due(row("position", line, station), x.position(line, station), m.position(line, station));
                break;
            case 18:
                int p = pick(20) == 0 ? between(-1, 8) : pick(8);
                due(row("why", line, station, p), x.why(line, station, p), m.why(line, station, p));
                break;
            case 19:
                due(row("free", line, station), x.free(line, station), m.free(line, station));
                break;
            case 20:
                due(row("labelAt", column, row), x.labelAt(column, row), m.labelAt(column, row));
                break;
            case 21:
                due("stuck", x.stuck(), m.stuck());
                due("couldLabel", x.couldLabel(), m.couldLabel());
                break;
            case 22:
                int nx = near(line, point, true), ny = near(line, point, false), what = pick(20) == 0 ? between(-1, 4) : pick(4);
                due(row("ifMoved", line, point, nx, ny, what), x.ifMoved(line, point, nx, ny, what), m.ifMoved(line, point, nx, ny, what));
                break;
            default:
                due(row("bestMove", line, point), x.bestMove(line, point), m.bestMove(line, point));
        }
    }

    private void askTexts() {
        int line = aLine();
        switch (pick(5)) {
            case 0:
                due(row("meanGap", line), x.meanGap(line), m.meanGap(line));
                due("labelled", x.labelled(), m.labelled());
                break;
            case 1:
                int letters = m.isLine(line) && pick(4) > 0 ? Check.letters(m.now.lines.get(line).name) : pick(1 << 30);
                letters ^= pick(4) == 0 ? 1 << pick(32) : 0;
                due(row("named", letters), x.named(letters), m.named(letters));
                break;
            case 2:
                due("pictureLength", x.pictureLength(), m.picture().length());
                pictureBytes(pick(20));
                break;
            case 3:
                due("setupLength", x.setupLength(), m.setup().length());
                setupBytes(pick(20));
                break;
            default:
                due("errorPosition", x.errorPosition(), m.error);
                due("tapeLength", x.tapeLength(), m.tape.length());
        }
    }

    /** So many bytes of the picture in a row, from anywhere in it or from its edges on. */
    private void pictureBytes(int many) {
        String picture = m.picture();
        int first = between(-1, picture.length());
        for (int i = first; i < first + many; i++) {
            due(row("pictureByte", i), x.pictureByte(i), Model.byteOf(picture, i));
        }
    }

    private void setupBytes(int many) {
        String setup = m.setup();
        int first = between(-1, setup.length());
        for (int i = first; i < first + many; i++) {
            due(row("setupByte", i), x.setupByte(i), Model.byteOf(setup, i));
        }
    }

    private static String row(String name, int... args) {
        StringBuilder text = new StringBuilder(name + "(");
        for (int a : args) {
            text.append(text.charAt(text.length() - 1) == '(' ? "" : ", ").append(a);
        }
        return text.append(")").toString();
    }
}
