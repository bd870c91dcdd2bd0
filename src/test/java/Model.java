import java.util.ArrayDeque;
import java.util.ArrayList;
import java.util.Arrays;
import java.util.Deque;
import java.util.HashMap;
import java.util.HashSet;
import java.util.List;
import java.util.Map;
import java.util.Set;
import java.util.TreeMap;
import java.util.TreeSet;
import java.util.regex.Matcher;
import java.util.regex.Pattern;

/**
 * The document once more, written for plainness alone: everything is made anew from the points and
 * labels at every call, with the sets and maps of the library. RandomRunsTest holds the program
 * against it. Cells are 64 times the row plus the column, steps are texts.
 */
final class Model {
    static final int INVALID = -1, NOT_FOUND = -2, CROOKED = -3, SHORT = -4, OFF = -5, ON_LINE = -6, ON_LABEL = -7;
    static final int[][] WAYS = {{1, 0}, {1, 1}, {0, 1}, {-1, 1}, {-1, 0}, {-1, -1}, {0, -1}, {1, -1}};

    static final class MLine {
        String name;
        int size, stops;
        List<int[]> points = new ArrayList<>();

        MLine copy() {
            MLine other = new MLine();
            other.name = name;
            other.size = size;
            other.stops = stops;
            for (int[] p : points) {
                other.points.add(p.clone());
            }
            return other;
        }

        /** The cells where the line comes, one for each step and one more; null if it cannot run. */
        List<Integer> path(int turn) {
            List<Integer> cells = new ArrayList<>();
            List<Integer> ways = ways();
            if (ways == null) {
                return null;
            }
            for (int i = 1; i < ways.size(); i++) {
                if (eighths(ways.get(i - 1), ways.get(i)) > turn) {
                    return null;
                }
            }
            int x = points.get(0)[0], y = points.get(0)[1];
            cells.add(64 * y + x);
            for (int i = 0; i < ways.size(); i++) {
                while (x != points.get(i + 1)[0] || y != points.get(i + 1)[1]) {
                    x += WAYS[ways.get(i)][0];
                    y += WAYS[ways.get(i)][1];
                    cells.add(64 * y + x);
                }
            }
            return cells;
        }

        /** The ways of the runs; null if one is none of the eight. */
        List<Integer> ways() {
            List<Integer> ways = new ArrayList<>();
            for (int i = 0; i + 1 < points.size(); i++) {
                int[] a = points.get(i), b = points.get(i + 1);
                int found = -1;
                for (int way = 0; way < 8; way++) {
                    for (int n = 1; n < 64; n++) {
                        if (a[0] + n * WAYS[way][0] == b[0] && a[1] + n * WAYS[way][1] == b[1]) {
                            found = way;
                        }
                    }
                }
                if (found < 0) {
                    return null;
                }
                ways.add(found);
            }
            return ways;
        }
    }

    static int eighths(int a, int b) {
        int one = Math.floorMod(a - b, 8), other = Math.floorMod(b - a, 8);
        return Math.min(one, other);
    }

    static final class State {
        List<MLine> lines = new ArrayList<>();
        TreeMap<Integer, Integer> labels = new TreeMap<>();
        /** Made from the lines when they are asked for, null when the lines have changed. */
        List<List<Integer>> paths;
        TreeMap<Integer, List<Integer>> places;
        Set<Integer> lineCells;

        void linesHaveChanged() {
            paths = null;
            places = null;
            lineCells = null;
        }

        State copy() {
            State other = new State();
            for (MLine l : lines) {
                other.lines.add(l.copy());
            }
            other.labels.putAll(labels);
            return other;
        }
    }

    int wide = 20, high = 12, turn = 2;
    State now = new State();
    State[] slots = new State[2];
    Deque<State> undo = new ArrayDeque<>();
    StringBuilder tape = new StringBuilder();
    int error = NOT_FOUND;

    // ---- setup

    int append(int... ints) {
        if (tape.length() + 20 > 1000) {
            return INVALID;
        }
        for (int i : ints) {
            for (int shift = 24; shift >= 0; shift -= 8) {
                tape.append((char) (i >>> shift & 255));
            }
        }
        return tape.length();
    }

    int truncate(int n) {
        if (n < 0 || n > tape.length()) {
            return INVALID;
        }
        tape.setLength(tape.length() - n);
        return tape.length();
    }

    static final class Stop extends RuntimeException {
        static final long serialVersionUID = 1;
        final int place;

        Stop(int place) {
            this.place = place;
        }
    }

    List<String> tokens;
    List<Integer> places;
    int next;

    int load() {
        String text = tape.toString();
        tape.setLength(0);
        tokens = new ArrayList<>();
        places = new ArrayList<>();
        Matcher m = Pattern.compile("[a-z]+|[0-9]+|[^ \n]", Pattern.DOTALL).matcher(text);
        while (m.find()) {
            tokens.add(m.group());
            places.add(m.start());
        }
        tokens.add("");
        places.add(text.length());
        next = 0;
        try {
            keyword("board");
            int w = number(4, 40), h = number(4, 40);
            keyword("turn");
            int t = number(0, 3);
            keyword(";");
            State state = new State();
            while (tokens.get(next).equals("line") && state.lines.size() < 8) {
                state.lines.add(readLine(state, w, h, t));
            }
            if (next != tokens.size() - 1) {
                throw new Stop(places.get(next));
            }
            wide = w;
            high = h;
            turn = t;
            now = state;
            slots = new State[2];
            undo.clear();
            error = NOT_FOUND;
            return state.lines.size();
        } catch (Stop stop) {
            error = stop.place;
            return INVALID;
        }
    }

    MLine readLine(State state, int w, int h, int t) {
        keyword("line");
        MLine line = new MLine();
        line.name = tokens.get(next);
        boolean bad = !line.name.matches("[a-z]{1,6}") || line.name.matches("board|turn|line|size|stops|at");
        for (MLine other : state.lines) {
            bad |= other.name.equals(line.name);
        }
        if (bad) {
            throw new Stop(places.get(next));
        }
        next++;
        keyword("size");
        line.size = number(1, 10);
        keyword("stops");
        line.stops = number(2, 20);
        do {
            if (line.points.size() == 10) {
                throw new Stop(places.get(next));
            }
            keyword("at");
            int x = number(0, w - 1), y = number(0, h - 1);
            line.points.add(new int[] {x, y});
            if (line.path(t) == null) {
                throw new Stop(places.get(next - 1));
            }
        } while (line.points.size() < 2 || !tokens.get(next).equals(";"));
        if (line.path(t).size() < line.stops) {
            throw new Stop(places.get(next));
        }
        next++;
        return line;
    }

    void keyword(String word) {
        if (!tokens.get(next).equals(word)) {
            throw new Stop(places.get(next));
        }
        next++;
    }

    int number(int least, int most) {
        String token = tokens.get(next);
        if (!token.matches("[0-9]{1,2}") || Integer.parseInt(token) < least || Integer.parseInt(token) > most) {
            throw new Stop(places.get(next));
        }
        next++;
        return Integer.parseInt(token);
    }

    // ---- what there is

    boolean isLine(int line) {
        return 0 <= line && line < now.lines.size();
    }

    boolean isPoint(int line, int point) {
        return isLine(line) && 0 <= point && point < now.lines.get(line).points.size();
    }

    boolean isStation(int line, int station) {
        return isLine(line) && 0 <= station && station < now.lines.get(line).stops;
    }

    boolean isCell(int x, int y) {
        return 0 <= x && x < wide && 0 <= y && y < high;
    }

    List<Integer> path(int line) {
        if (now.paths == null) {
            now.paths = new ArrayList<>();
            for (MLine l : now.lines) {
                now.paths.add(l.path(turn));
            }
        }
        return now.paths.get(line);
    }

    int stepsTo(int line, int station) {
        return station * (path(line).size() - 1) / (now.lines.get(line).stops - 1);
    }

    int cellOf(int line, int station) {
        return path(line).get(stepsTo(line, station));
    }

    Set<Integer> cellsOf(int line) {
        return new TreeSet<>(path(line));
    }

    Set<Integer> lineCells() {
        if (now.lineCells == null) {
            now.lineCells = new HashSet<>();
            for (int i = 0; i < now.lines.size(); i++) {
                now.lineCells.addAll(path(i));
            }
        }
        return now.lineCells;
    }

    /** The stations of each place, as 20 times the line plus the station. */
    TreeMap<Integer, List<Integer>> places() {
        if (now.places == null) {
            now.places = new TreeMap<>();
            for (int line = 0; line < now.lines.size(); line++) {
                for (int i = 0; i < now.lines.get(line).stops; i++) {
                    now.places.computeIfAbsent(cellOf(line, i), c -> new ArrayList<>()).add(20 * line + i);
                }
            }
        }
        return now.places;
    }

    int longOf(int place) {
        int most = 0;
        for (int s : places().get(place)) {
            most = Math.max(most, now.lines.get(s / 20).size + s % 20 % 3);
        }
        return most;
    }

    /** The cells of a label; {-1} if one is off the board. */
    Set<Integer> labelCells(int place, int position) {
        int x = place % 64, y = place / 64, many = longOf(place);
        int[] left = {x + 1, x - many, x + 1, x + 1, x - many, x - many, x - many / 2, x - many / 2};
        int[] row = {y, y, y - 1, y + 1, y - 1, y + 1, y - 1, y + 1};
        Set<Integer> cells = new TreeSet<>();
        for (int i = 0; i < many; i++) {
            if (!isCell(left[position] + i, row[position])) {
                return Set.of(-1);
            }
            cells.add(64 * row[position] + left[position] + i);
        }
        return cells;
    }

    /** The place of the label on each cell. */
    Map<Integer, Integer> covered() {
        Map<Integer, Integer> all = new HashMap<>();
        for (int place : now.labels.keySet()) {
            for (int cell : labelCells(place, now.labels.get(place))) {
                all.put(cell, place);
            }
        }
        return all;
    }

    int whyNot(int place, int position) {
        Set<Integer> cells = labelCells(place, position);
        if (cells.contains(-1)) {
            return OFF;
        }
        Set<Integer> lines = lineCells();
        Map<Integer, Integer> covered = covered();
        for (int cell : cells) {
            if (lines.contains(cell)) {
                return ON_LINE;
            }
        }
        for (int cell : cells) {
            if (covered.containsKey(cell) && covered.get(cell) != place) {
                return ON_LABEL;
            }
        }
        return 0;
    }

    int firstFit(int place) {
        for (int position = 0; position < 8; position++) {
            if (whyNot(place, position) == 0) {
                return position;
            }
        }
        return NOT_FOUND;
    }

    // ---- operations

    void remember(State before) {
        undo.addLast(before);
        if (undo.size() > 8) {
            undo.removeFirst();
        }
    }

    /** Puts a changed line in place; 0, or a refusal that changes nothing. */
    int put(int number, MLine line) {
        List<Integer> path = line.path(turn);
        if (path == null) {
            return CROOKED;
        }
        if (path.size() < line.stops) {
            return SHORT;
        }
        now.lines.set(number, line);
        now.linesHaveChanged();
        TreeMap<Integer, Integer> old = now.labels;
        now.labels = new TreeMap<>();
        old.keySet().retainAll(places().keySet());
        for (int place : old.keySet()) {
            if (whyNot(place, old.get(place)) == 0) {
                now.labels.put(place, old.get(place));
            }
        }
        return 0;
    }

    int change(int number, MLine line) {
        State before = now.copy();
        int many = now.labels.size();
        int answer = put(number, line);
        if (answer < 0) {
            return answer;
        }
        remember(before);
        return many - now.labels.size();
    }

    int moveBend(int line, int point, int x, int y) {
        if (!isPoint(line, point) || !isCell(x, y)) {
            return INVALID;
        }
        MLine changed = now.lines.get(line).copy();
        if (Arrays.equals(changed.points.get(point), new int[] {x, y})) {
            return NOT_FOUND;
        }
        changed.points.set(point, new int[] {x, y});
        return change(line, changed);
    }

    int insert(int line, int point, int x, int y) {
        if (!isLine(line) || !isCell(x, y) || point < 0 || point > now.lines.get(line).points.size()) {
            return INVALID;
        }
        MLine changed = now.lines.get(line).copy();
        if (changed.points.size() == 10) {
            return NOT_FOUND;
        }
        changed.points.add(point, new int[] {x, y});
        return change(line, changed);
    }

    int removePoint(int line, int point) {
        if (!isPoint(line, point)) {
            return INVALID;
        }
        MLine changed = now.lines.get(line).copy();
        if (changed.points.size() == 2) {
            return NOT_FOUND;
        }
        changed.points.remove(point);
        return change(line, changed);
    }

    int reverse(int line) {
        if (!isLine(line)) {
            return INVALID;
        }
        MLine changed = now.lines.get(line).copy();
        java.util.Collections.reverse(changed.points);
        return change(line, changed);
    }

    int setStops(int line, int stops) {
        if (!isLine(line) || stops < 2 || stops > 20) {
            return INVALID;
        }
        MLine changed = now.lines.get(line).copy();
        if (changed.stops == stops) {
            return NOT_FOUND;
        }
        changed.stops = stops;
        return change(line, changed);
    }

    int setSize(int line, int size) {
        if (!isLine(line) || size < 1 || size > 10) {
            return INVALID;
        }
        MLine changed = now.lines.get(line).copy();
        if (changed.size == size) {
            return NOT_FOUND;
        }
        changed.size = size;
        return change(line, changed);
    }

    int label(int line, int station, int position) {
        if (!isStation(line, station) || position < 0 || position > 7) {
            return INVALID;
        }
        int place = cellOf(line, station);
        if (now.labels.containsKey(place) && now.labels.get(place) == position) {
            return NOT_FOUND;
        }
        int why = whyNot(place, position);
        if (why < 0) {
            return why;
        }
        remember(now.copy());
        now.labels.put(place, position);
        return longOf(place);
    }

    int unlabel(int line, int station) {
        if (!isStation(line, station)) {
            return INVALID;
        }
        int place = cellOf(line, station);
        if (!now.labels.containsKey(place)) {
            return NOT_FOUND;
        }
        remember(now.copy());
        return now.labels.remove(place);
    }

    int dodge(int line, int station) {
        if (!isStation(line, station)) {
            return INVALID;
        }
        int place = cellOf(line, station);
        if (now.labels.containsKey(place)) {
            return NOT_FOUND;
        }
        State before = now.copy();
        int fit = firstFit(place);
        if (fit >= 0) {
            now.labels.put(place, fit);
            remember(before);
            return fit;
        }
        for (int position = 0; position < 8; position++) {
            if (whyNot(place, position) != ON_LABEL) {
                continue;
            }
            Set<Integer> others = new HashSet<>();
            for (int cell : labelCells(place, position)) {
                if (covered().containsKey(cell)) {
                    others.add(covered().get(cell));
                }
            }
            if (others.size() != 1) {
                continue;
            }
            int other = others.iterator().next();
            int was = now.labels.remove(other);
            now.labels.put(place, position);
            for (int refuge = 0; refuge < 8; refuge++) {
                if (refuge != was && whyNot(other, refuge) == 0) {
                    now.labels.put(other, refuge);
                    remember(before);
                    return position;
                }
            }
            now = before.copy();
        }
        return NOT_FOUND;
    }

    int labelPlaces() {
        int count = 0;
        for (int place : places().keySet()) {
            if (!now.labels.containsKey(place) && firstFit(place) >= 0) {
                now.labels.put(place, firstFit(place));
                count++;
            }
        }
        return count;
    }

    int labelAll() {
        remember(now.copy());
        return labelPlaces();
    }

    int keep(int slot) {
        if (slot != 0 && slot != 1) {
            return INVALID;
        }
        slots[slot] = now.copy();
        return now.labels.size();
    }

    int restore(int slot) {
        if (slot != 0 && slot != 1) {
            return INVALID;
        }
        if (slots[slot] == null) {
            return NOT_FOUND;
        }
        remember(now);
        now = slots[slot].copy();
        return now.labels.size();
    }

    int undo() {
        if (undo.isEmpty()) {
            return INVALID;
        }
        now = undo.removeLast();
        return undo.size();
    }

    // ---- lines and stations

    /** The steps of a line, each as its two cells, the lesser one first. */
    Set<String> stepsOf(int line) {
        Set<String> all = new HashSet<>();
        List<Integer> path = path(line);
        for (int i = 1; i < path.size(); i++) {
            int a = path.get(i - 1), b = path.get(i);
            all.add(Math.min(a, b) + "-" + Math.max(a, b));
        }
        return all;
    }

    Set<Integer> crossings(int a, int b) {
        Set<Integer> shared = cellsOf(a);
        shared.retainAll(cellsOf(b));
        shared.removeAll(places().keySet());
        return shared;
    }

    int between(int a, int b) {
        Set<String> one = stepsOf(a), two = stepsOf(b);
        int count = 0;
        for (int y = 0; y < high; y++) {
            for (int x = 0; x < wide; x++) {
                int c = 64 * y + x;
                String falling = c + "-" + (c + 65), rising = (c + 1) + "-" + (c + 64);
                if (one.contains(falling) && two.contains(rising) || two.contains(falling) && one.contains(rising)) {
                    count++;
                }
            }
        }
        return count;
    }

    int sideBySide(int a, int b) {
        Set<String> one = stepsOf(a);
        one.retainAll(stepsOf(b));
        return one.size();
    }

    TreeSet<Integer> allCrossings() {
        TreeSet<Integer> all = new TreeSet<>();
        for (int a = 0; a < now.lines.size(); a++) {
            for (int b = 0; b < a; b++) {
                all.addAll(crossings(a, b));
            }
        }
        return all;
    }

    int allBetween() {
        int sum = 0;
        for (int a = 0; a < now.lines.size(); a++) {
            for (int b = 0; b < a; b++) {
                sum += between(a, b);
            }
        }
        return sum;
    }

    int value(int what) {
        int sum = 0;
        switch (what) {
            case 0: return wide;
            case 1: return high;
            case 2: return turn;
            case 3: return now.lines.size();
            case 4:
                for (List<Integer> stations : places().values()) {
                    sum += stations.size();
                }
                return sum;
            case 5: return places().size();
            case 6: return now.labels.size();
            case 7: return lineCells().size();
            case 8: return covered().size();
            case 9: return allCrossings().size();
            case 10: return allBetween();
            case 11:
                for (int a = 0; a < now.lines.size(); a++) {
                    for (int b = 0; b < a; b++) {
                        sum += sideBySide(a, b);
                    }
                }
                return sum;
            default: return INVALID;
        }
    }

    List<Integer> turns(int line) {
        List<Integer> turns = new ArrayList<>();
        List<Integer> ways = now.lines.get(line).ways();
        for (int i = 1; i < ways.size(); i++) {
            turns.add(eighths(ways.get(i), ways.get(i - 1)));
        }
        return turns;
    }

    int line(int line, int what) {
        if (!isLine(line)) {
            return INVALID;
        }
        MLine it = now.lines.get(line);
        List<Integer> path = path(line);
        switch (what) {
            case 0: return it.points.size();
            case 1: return it.stops;
            case 2: return it.size;
            case 3: return path.size() - 1;
            case 4: return (int) turns(line).stream().filter(t -> t != 0).count();
            case 5: return turns(line).stream().mapToInt(t -> t).max().orElse(0);
            case 6: return turns(line).stream().mapToInt(t -> t).sum();
            case 7:
                int slanting = 0;
                for (int i = 1; i < path.size(); i++) {
                    int far = Math.abs(path.get(i) - path.get(i - 1));
                    slanting += far == 63 || far == 65 ? 1 : 0;
                }
                return slanting;
            case 8:
                int met = 0;
                for (int i = 0; i < now.lines.size(); i++) {
                    met += i != line && both(i, line, 0) > 0 ? 1 : 0;
                }
                return met;
            default: return INVALID;
        }
    }

    int point(int line, int point, boolean column) {
        return isPoint(line, point) ? now.lines.get(line).points.get(point)[column ? 0 : 1] : INVALID;
    }

    int turn(int line, int point) {
        if (!isPoint(line, point)) {
            return INVALID;
        }
        if (point == 0 || point == now.lines.get(line).points.size() - 1) {
            return NOT_FOUND;
        }
        return turns(line).get(point - 1);
    }

    int station(int line, int station, int what) {
        if (!isStation(line, station)) {
            return INVALID;
        }
        int place = cellOf(line, station), steps = stepsTo(line, station);
        switch (what) {
            case 0: return place % 64;
            case 1: return place / 64;
            case 2: return steps;
            case 3:
                int to = Math.max(steps, 1);
                int a = path(line).get(to - 1), b = path(line).get(to);
                for (int way = 0; way < 8; way++) {
                    if (a + 64 * WAYS[way][1] + WAYS[way][0] == b) {
                        return way;
                    }
                }
                throw new IllegalStateException();
            case 4: return now.lines.get(line).size + station % 3;
            case 5: return places().get(place).size();
            default: return INVALID;
        }
    }

    int at(int x, int y) {
        if (!isCell(x, y)) {
            return INVALID;
        }
        int cell = 64 * y + x;
        return places().containsKey(cell) ? 3 : lineCells().contains(cell) ? 2 : covered().containsKey(cell) ? 1 : 0;
    }

    int linesAt(int x, int y) {
        if (!isCell(x, y)) {
            return INVALID;
        }
        int mask = 0;
        for (int i = 0; i < now.lines.size(); i++) {
            mask += path(i).contains(64 * y + x) ? 1 << i : 0;
        }
        return mask;
    }

    int uneven(int line) {
        if (!isLine(line)) {
            return INVALID;
        }
        TreeSet<Integer> gaps = new TreeSet<>();
        for (int i = 1; i < now.lines.get(line).stops; i++) {
            gaps.add(stepsTo(line, i) - stepsTo(line, i - 1));
        }
        return gaps.last() - gaps.first();
    }

    int crookedest() {
        int best = NOT_FOUND;
        for (int i = now.lines.size() - 1; i >= 0; i--) {
            if (best < 0 || line(i, 6) >= line(best, 6)) {
                best = i;
            }
        }
        return best;
    }

    int nearest(int x, int y) {
        if (!isCell(x, y)) {
            return INVALID;
        }
        for (int far = 0; far < 64; far++) {
            for (int place : places().keySet()) {
                if (Math.max(Math.abs(place % 64 - x), Math.abs(place / 64 - y)) == far) {
                    return place;
                }
            }
        }
        return NOT_FOUND;
    }

    int both(int a, int b, int what) {
        if (!isLine(a) || !isLine(b) || a == b) {
            return INVALID;
        }
        switch (what) {
            case 0:
                Set<Integer> shared = cellsOf(a);
                shared.retainAll(cellsOf(b));
                return shared.size();
            case 1:
                int count = 0;
                for (List<Integer> stations : places().values()) {
                    boolean ofA = stations.stream().anyMatch(s -> s / 20 == a);
                    boolean ofB = stations.stream().anyMatch(s -> s / 20 == b);
                    count += ofA && ofB ? 1 : 0;
                }
                return count;
            case 2: return crossings(a, b).size();
            case 3: return between(a, b);
            case 4: return sideBySide(a, b);
            default: return INVALID;
        }
    }

    int crossing(int i) {
        if (i < 0) {
            return INVALID;
        }
        List<Integer> all = new ArrayList<>(allCrossings());
        return i < all.size() ? all.get(i) : NOT_FOUND;
    }

    /** The least sum of costs from the stations of one place to one of another place. */
    int cheapest(int from, int to, int ride, int change) {
        Map<Integer, Integer> cost = new HashMap<>();
        Deque<Integer> queue = new ArrayDeque<>();
        TreeMap<Integer, List<Integer>> places = places();
        for (int s : places.get(from)) {
            cost.put(s, 0);
            queue.add(s);
        }
        while (!queue.isEmpty()) {
            int s = queue.poll();
            Map<Integer, Integer> next = new HashMap<>();
            for (int other : places.get(cellOf(s / 20, s % 20))) {
                next.put(other, other / 20 == s / 20 ? 0 : change);
            }
            if (isStation(s / 20, s % 20 + 1)) {
                next.merge(s + 1, ride, Math::min);
            }
            if (s % 20 > 0) {
                next.merge(s - 1, ride, Math::min);
            }
            for (int other : next.keySet()) {
                int sum = cost.get(s) + next.get(other);
                if (sum < cost.getOrDefault(other, 100000)) {
                    cost.put(other, sum);
                    queue.add(other);
                }
            }
        }
        int least = 100000;
        for (int s : places.get(to)) {
            least = Math.min(least, cost.getOrDefault(s, 100000));
        }
        return least == 100000 ? NOT_FOUND : least;
    }

    int rides(int line, int station, int other, int to) {
        if (!isStation(line, station) || !isStation(other, to)) {
            return INVALID;
        }
        return cheapest(cellOf(line, station), cellOf(other, to), 1, 0);
    }

    int changes(int line, int station, int other, int to) {
        if (!isStation(line, station) || !isStation(other, to)) {
            return INVALID;
        }
        return cheapest(cellOf(line, station), cellOf(other, to), 0, 1);
    }

    // ---- labels

    int position(int line, int station) {
        return isStation(line, station) ? now.labels.getOrDefault(cellOf(line, station), NOT_FOUND) : INVALID;
    }

    int why(int line, int station, int position) {
        if (!isStation(line, station) || position < 0 || position > 7) {
            return INVALID;
        }
        return whyNot(cellOf(line, station), position);
    }

    int free(int line, int station) {
        if (!isStation(line, station)) {
            return INVALID;
        }
        int mask = 0;
        for (int i = 0; i < 8; i++) {
            mask += whyNot(cellOf(line, station), i) == 0 ? 1 << i : 0;
        }
        return mask;
    }

    int labelAt(int x, int y) {
        return isCell(x, y) ? covered().getOrDefault(64 * y + x, NOT_FOUND) : INVALID;
    }

    int stuck() {
        int count = 0;
        for (int place : places().keySet()) {
            count += !now.labels.containsKey(place) && firstFit(place) < 0 ? 1 : 0;
        }
        return count;
    }

    // ---- what would be

    int ifMoved(int line, int point, int x, int y, int what) {
        if (what < 0 || what > 3) {
            return INVALID;
        }
        State before = now.copy();
        Deque<State> undone = new ArrayDeque<>(undo);
        int lost = moveBend(line, point, x, y);
        int answer = lost < 0 || what == 0 ? lost : what == 1 ? value(9) : what == 2 ? value(10) : line(line, 3);
        now = before;
        undo = undone;
        return answer;
    }

    int bestMove(int line, int point) {
        if (!isPoint(line, point)) {
            return INVALID;
        }
        int best = NOT_FOUND, least = 0;
        for (int way = 7; way >= 0; way--) {
            int x = point(line, point, true) + WAYS[way][0], y = point(line, point, false) + WAYS[way][1];
            if (ifMoved(line, point, x, y, 0) >= 0) {
                int sum = ifMoved(line, point, x, y, 0) + ifMoved(line, point, x, y, 1) + ifMoved(line, point, x, y, 2);
                if (best < 0 || sum <= least) {
                    best = way;
                    least = sum;
                }
            }
        }
        return best;
    }

    int couldLabel() {
        State before = now.copy();
        int count = labelPlaces();
        now = before;
        return count;
    }

    // ---- rates

    float meanGap(int line) {
        return isLine(line) ? (float) line(line, 3) / (float) (line(line, 1) - 1) : -1f;
    }

    double labelled() {
        return value(5) == 0 ? 0 : (double) value(6) / (double) value(5);
    }

    // ---- texts

    int named(int letters) {
        StringBuilder name = new StringBuilder();
        for (int shift = 25; shift >= 0; shift -= 5) {
            int group = letters >> shift & 31;
            name.append(group == 0 ? '_' : (char) ('a' + group - 1));
        }
        if ((letters & 3 << 30) != 0 || !name.toString().matches("[a-z]+_*")) {
            return INVALID;
        }
        for (int i = 0; i < now.lines.size(); i++) {
            if (now.lines.get(i).name.equals(name.toString().replace("_", ""))) {
                return i;
            }
        }
        return NOT_FOUND;
    }

    String picture() {
        StringBuilder all = new StringBuilder();
        Set<Integer> crossings = allCrossings(), places = places().keySet();
        Map<Integer, Integer> covered = covered();
        for (int y = 0; y < high; y++) {
            for (int x = 0; x < wide; x++) {
                int cell = 64 * y + x, mask = linesAt(x, y);
                all.append(places.contains(cell) ? "o" : crossings.contains(cell) ? "+"
                    : mask != 0 ? "" + Integer.numberOfTrailingZeros(mask) : covered.containsKey(cell) ? "=" : ".");
            }
            all.append("\n");
        }
        return all.toString();
    }

    String setup() {
        StringBuilder all = new StringBuilder(String.format("board %d %d turn %d;", wide, high, turn));
        for (MLine line : now.lines) {
            all.append(String.format("line %s size %d stops %d", line.name, line.size, line.stops));
            for (int[] p : line.points) {
                all.append(String.format(" at %d %d", p[0], p[1]));
            }
            all.append(";");
        }
        return all.toString();
    }

    static int byteOf(String text, int i) {
        return i < 0 ? INVALID : i >= text.length() ? NOT_FOUND : text.charAt(i);
    }
}
