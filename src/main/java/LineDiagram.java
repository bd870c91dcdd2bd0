import java.util.Arrays;

/**
 * A diagram of subway lines on a board of cells, with stations, crossings and labels that dodge
 * the lines and one another. The document DOC.md says what each call answers; the terms that
 * stand in capitals there (LONG, SIZE, STOPS, TURN, POSITION) are used here likewise.
 */
public final class LineDiagram {
    public static final int INVALID = -1;
    public static final int NOT_FOUND = -2;
    public static final int CROOKED = -3;
    public static final int SHORT = -4;
    public static final int OFF = -5;
    public static final int ON_LINE = -6;
    public static final int ON_LABEL = -7;

    private static final int MOST_LINES = 8;
    private static final int MOST_POINTS = 10;
    private static final int MOST_STOPS = 20;
    private static final int MOST_SIZE = 10;
    private static final int MOST_TURN = 3;
    private static final int MOST_PLACES = 160;
    private static final int LEAST_SIDE = 4;
    private static final int MOST_SIDE = 40;
    private static final int MOST_CELLS = 1600;
    private static final int MOST_BYTES = 1000;
    private static final int MOST_UNDONE = 8;
    private static final int SLOTS = 2;
    private static final int POSITIONS = 8;
    private static final int WAYS = 8;
    private static final int ALL_LINES = 255;
    private static final int LETTERS = 6;

    /** Columns and rows that a step of each way goes. */
    private static final int[] ACROSS = {1, 1, 0, -1, -1, -1, 0, 1};
    private static final int[] DOWN = {0, 1, 1, 1, 0, -1, -1, -1};
    /** The way by the signs of rows and columns that it goes, from up and left on. */
    private static final int[] WAY_BY_SIGNS = {5, 6, 7, 4, -1, 0, 3, 2, 1};

    private final Text tape = new Text();
    private final Text setup = new Text();
    private final Parser parser = new Parser();
    private final Plan now = new Plan();
    private final Plan saved = new Plan();
    private final Plan[] slots = new Plan[SLOTS];
    private final boolean[] kept = new boolean[SLOTS];
    private final History history = new History();
    private final Board board = new Board();
    private final Travel travel = new Travel();
    private final Line trial = new Line();
    private int error = NOT_FOUND;

    public LineDiagram() {
        for (int i = 0; i < SLOTS; i++) {
            slots[i] = new Plan();
        }
        now.begin(20, 12, 2);
        board.begin(20, 12);
    }

    // ---- setup

    public int append(int a, int b, int c, int d, int e) {
        if (tape.length + 20 > MOST_BYTES) {
            return INVALID;
        }
        tape.addInt(a);
        tape.addInt(b);
        tape.addInt(c);
        tape.addInt(d);
        tape.addInt(e);
        return tape.length;
    }

    public int truncate(int n) {
        if (n < 0 || n > tape.length) {
            return INVALID;
        }
        tape.length -= n;
        return tape.length;
    }

    public int load() {
        error = parser.parse(tape, saved);
        tape.length = 0;
        if (error >= 0) {
            return INVALID;
        }
        now.copyFrom(saved);
        board.drawLines(now);
        history.forget();
        for (int i = 0; i < SLOTS; i++) {
            kept[i] = false;
        }
        return now.lineCount;
    }

    public int errorPosition() {
        return error;
    }

    // ---- operations

    public int moveBend(int line, int point, int x, int y) {
        int refusal = tryMove(line, point, x, y);
        return refusal < 0 ? refusal : change(line);
    }

    public int insert(int line, int point, int x, int y) {
        if (!isLine(line) || !isCell(x, y) || point < 0 || point > now.lines[line].points) {
            return INVALID;
        }
        if (now.lines[line].points >= MOST_POINTS) {
            return NOT_FOUND;
        }
        trial.copyFrom(now.lines[line]);
        trial.insertPoint(point, x, y);
        return change(line);
    }

    public int removePoint(int line, int point) {
        if (!isPoint(line, point)) {
            return INVALID;
        }
        if (now.lines[line].points <= 2) {
            return NOT_FOUND;
        }
        trial.copyFrom(now.lines[line]);
        trial.dropPoint(point);
        return change(line);
    }

    public int reverse(int line) {
        if (!isLine(line)) {
            return INVALID;
        }
        trial.copyFrom(now.lines[line]);
        trial.turnRound();
        return change(line);
    }

    public int setStops(int line, int stops) {
        if (!isLine(line) || stops < 2 || stops > MOST_STOPS) {
            return INVALID;
        }
        if (now.lines[line].stops == stops) {
            return NOT_FOUND;
        }
        trial.copyFrom(now.lines[line]);
        trial.stops = stops;
        return change(line);
    }

    public int setSize(int line, int size) {
        if (!isLine(line) || size < 1 || size > MOST_SIZE) {
            return INVALID;
        }
        if (now.lines[line].size == size) {
            return NOT_FOUND;
        }
        trial.copyFrom(now.lines[line]);
        trial.size = size;
        return change(line);
    }

    public int label(int line, int station, int position) {
        if (!isStation(line, station) || !isPosition(position)) {
            return INVALID;
        }
        int cell = board.stationCell(line, station);
        if (now.labels.positionOf(cell) == position) {
            return NOT_FOUND;
        }
        int reason = board.reason(cell, position);
        if (reason < 0) {
            return reason;
        }
        history.push(now);
        putLabel(cell, position);
        return board.longs[cell];
    }

    public int unlabel(int line, int station) {
        if (!isStation(line, station)) {
            return INVALID;
        }
        int cell = board.stationCell(line, station);
        int position = now.labels.positionOf(cell);
        if (position < 0) {
            return NOT_FOUND;
        }
        history.push(now);
        takeLabel(cell);
        return position;
    }

    public int dodge(int line, int station) {
        if (!isStation(line, station)) {
            return INVALID;
        }
        int cell = board.stationCell(line, station);
        if (now.labels.positionOf(cell) >= 0) {
            return NOT_FOUND;
        }
        int position = board.firstFit(cell);
        if (position < 0) {
            return pushAside(cell);
        }
        history.push(now);
        putLabel(cell, position);
        return position;
    }

    public int labelAll() {
        history.push(now);
        return labelPlaces();
    }

    public int keep(int slot) {
        if (!isSlot(slot)) {
            return INVALID;
        }
        slots[slot].copyFrom(now);
        kept[slot] = true;
        return now.labels.count;
    }

    public int restore(int slot) {
        if (!isSlot(slot)) {
            return INVALID;
        }
        if (!kept[slot]) {
            return NOT_FOUND;
        }
        history.push(now);
        show(slots[slot]);
        return now.labels.count;
    }

    public int undo() {
        if (history.count <= 0) {
            return INVALID;
        }
        history.pop(saved);
        show(saved);
        return history.count;
    }

    // ---- lines and stations

    public int value(int what) {
        switch (what) {
            case 0:
                return now.wide;
            case 1:
                return now.high;
            case 2:
                return now.mostTurn;
            case 3:
                return now.lineCount;
            case 4:
                return now.countStations();
            case 5:
                return board.countPlaces();
            case 6:
                return now.labels.count;
            case 7:
                return board.countLineCells();
            case 8:
                return board.countLabelCells();
            case 9:
                return board.countCrossings(ALL_LINES);
            case 10:
                return board.countBetween(ALL_LINES);
            case 11:
                return board.countSideBySide(ALL_LINES);
            default:
                return INVALID;
        }
    }

    public int line(int line, int what) {
        if (!isLine(line)) {
            return INVALID;
        }
        Line it = now.lines[line];
        switch (what) {
            case 0:
                return it.points;
            case 1:
                return it.stops;
            case 2:
                return it.size;
            case 3:
                return it.steps();
            case 4:
                return it.countBends();
            case 5:
                return it.greatestTurn();
            case 6:
                return it.sumOfTurns();
            case 7:
                return it.slantingSteps();
            case 8:
                return board.countMet(line);
            default:
                return INVALID;
        }
    }

    public int point(int line, int point, boolean column) {
        if (!isPoint(line, point)) {
            return INVALID;
        }
        return column ? now.lines[line].xs[point] : now.lines[line].ys[point];
    }

    public int turn(int line, int point) {
        if (!isPoint(line, point)) {
            return INVALID;
        }
        Line it = now.lines[line];
        return point == 0 || point == it.points - 1 ? NOT_FOUND : it.turnAt(point);
    }

    public int station(int line, int station, int what) {
        if (!isStation(line, station)) {
            return INVALID;
        }
        Line it = now.lines[line];
        int cell = board.stationCell(line, station);
        switch (what) {
            case 0:
                return columnOf(cell);
            case 1:
                return rowOf(cell);
            case 2:
                return it.stepOfStation(station, it.steps());
            case 3:
                return it.wayToStep(it.stepOfStation(station, it.steps()));
            case 4:
                return it.longOf(station);
            case 5:
                return board.stations[cell];
            default:
                return INVALID;
        }
    }

    public int at(int x, int y) {
        if (!isCell(x, y)) {
            return INVALID;
        }
        int cell = cellAt(x, y);
        if (board.stations[cell] > 0) {
            return 3;
        }
        if (board.lines[cell] != 0) {
            return 2;
        }
        return board.labels[cell] != 0 ? 1 : 0;
    }

    public int linesAt(int x, int y) {
        return isCell(x, y) ? board.lines[cellAt(x, y)] : INVALID;
    }

    public int uneven(int line) {
        return isLine(line) ? now.lines[line].unevenness() : INVALID;
    }

    public int crookedest() {
        int best = NOT_FOUND;
        int most = -1;
        for (int i = 0; i < now.lineCount; i++) {
            int turns = now.lines[i].sumOfTurns();
            if (turns > most) {
                most = turns;
                best = i;
            }
        }
        return best;
    }

    public int nearest(int x, int y) {
        return isCell(x, y) ? board.nearestPlace(x, y) : INVALID;
    }

    public int both(int a, int b, int what) {
        if (!isLine(a) || !isLine(b) || a == b) {
            return INVALID;
        }
        int pair = 1 << a | 1 << b;
        switch (what) {
            case 0:
                return board.countShared(pair);
            case 1:
                return board.countSharedPlaces(pair);
            case 2:
                return board.countCrossings(pair);
            case 3:
                return board.countBetween(pair);
            case 4:
                return board.countSideBySide(pair);
            default:
                return INVALID;
        }
    }

    public int crossing(int i) {
        return i < 0 ? INVALID : board.crossingOf(i);
    }

    public int rides(int line, int station, int other, int to) {
        if (!isStation(line, station) || !isStation(other, to)) {
            return INVALID;
        }
        return travel.leastRides(now, board, board.stationCell(line, station), other, to);
    }

    public int changes(int line, int station, int other, int to) {
        if (!isStation(line, station) || !isStation(other, to)) {
            return INVALID;
        }
        return travel.leastChanges(now, board, board.stationCell(line, station), board.stationCell(other, to));
    }

    // ---- labels

    public int position(int line, int station) {
        if (!isStation(line, station)) {
            return INVALID;
        }
        return now.labels.positionOf(board.stationCell(line, station));
    }

    public int why(int line, int station, int position) {
        if (!isStation(line, station) || !isPosition(position)) {
            return INVALID;
        }
        return board.reason(board.stationCell(line, station), position);
    }

    public int free(int line, int station) {
        if (!isStation(line, station)) {
            return INVALID;
        }
        int cell = board.stationCell(line, station);
        int mask = 0;
        for (int i = 0; i < POSITIONS; i++) {
            if (board.reason(cell, i) == 0) {
                mask |= 1 << i;
            }
        }
        return mask;
    }

    public int labelAt(int x, int y) {
        if (!isCell(x, y)) {
            return INVALID;
        }
        int mark = board.labels[cellAt(x, y)];
        return mark == 0 ? NOT_FOUND : codeOf(mark - 1);
    }

    public int stuck() {
        int count = 0;
        for (int cell = 0; cell < MOST_CELLS; cell++) {
            if (wantsLabel(cell) && board.firstFit(cell) < 0) {
                count++;
            }
        }
        return count;
    }

    // ---- what would be

    public int ifMoved(int line, int point, int x, int y, int what) {
        if (what < 0 || what > 3) {
            return INVALID;
        }
        int refusal = tryMove(line, point, x, y);
        if (refusal < 0) {
            return refusal;
        }
        if (what == 3) {
            return trial.steps();
        }
        saved.copyFrom(now);
        int answer = putTrial(line);
        if (what == 1) {
            answer = board.countCrossings(ALL_LINES);
        } else if (what == 2) {
            answer = board.countBetween(ALL_LINES);
        }
        show(saved);
        return answer;
    }

    public int bestMove(int line, int point) {
        if (!isPoint(line, point)) {
            return INVALID;
        }
        int x = now.lines[line].xs[point];
        int y = now.lines[line].ys[point];
        int best = NOT_FOUND;
        int least = 0;
        saved.copyFrom(now);
        for (int way = 0; way < WAYS; way++) {
            if (tryMove(line, point, x + ACROSS[way], y + DOWN[way]) == 0) {
                int cost = putTrial(line) + board.countCrossings(ALL_LINES) + board.countBetween(ALL_LINES);
                show(saved);
                if (best < 0 || cost < least) {
                    least = cost;
                    best = way;
                }
            }
        }
        return best;
    }

    public int couldLabel() {
        saved.copyFrom(now);
        int count = labelPlaces();
        show(saved);
        return count;
    }

    // ---- rates

    public float meanGap(int line) {
        if (!isLine(line)) {
            return -1;
        }
        int gaps = now.lines[line].stops - 1;
        return gaps < 1 ? -1 : (float) now.lines[line].steps() / (float) gaps;
    }

    public double labelled() {
        int places = board.countPlaces();
        return places == 0 ? 0 : (double) now.labels.count / (double) places;
    }

    // ---- texts

    public int named(int letters) {
        if (!isName(letters)) {
            return INVALID;
        }
        int found = now.lineNamed(letters);
        return found < 0 ? NOT_FOUND : found;
    }

    public int pictureLength() {
        return (now.wide + 1) * now.high;
    }

    public int pictureByte(int i) {
        if (i < 0) {
            return INVALID;
        }
        int rowLength = now.wide + 1;
        if (rowLength < 1 || i >= rowLength * now.high) {
            return NOT_FOUND;
        }
        int column = i % rowLength;
        return column == now.wide ? '\n' : board.byteOf(cellAt(column, i / rowLength));
    }

    public int setupLength() {
        now.describe(setup);
        return setup.length;
    }

    public int setupByte(int i) {
        if (i < 0) {
            return INVALID;
        }
        now.describe(setup);
        return i >= setup.length ? NOT_FOUND : setup.byteAt(i);
    }

    public int tapeLength() {
        return tape.length;
    }

    // ---- arguments

    private boolean isLine(int line) {
        return line >= 0 && line < now.lineCount;
    }

    private boolean isPoint(int line, int point) {
        return isLine(line) && point >= 0 && point < now.lines[line].points;
    }

    private boolean isStation(int line, int station) {
        return isLine(line) && station >= 0 && station < now.lines[line].stops;
    }

    private boolean isCell(int x, int y) {
        return x >= 0 && x < now.wide && y >= 0 && y < now.high;
    }

    private static boolean isPosition(int position) {
        return position >= 0 && position < POSITIONS;
    }

    private static boolean isSlot(int slot) {
        return slot >= 0 && slot < SLOTS;
    }

    /** Whether an int holds one to six letters as named() tells. */
    private static boolean isName(int letters) {
        if (letters <= 0 || letters >> 30 != 0) {
            return false;
        }
        boolean ended = false;
        for (int i = 0; i < LETTERS; i++) {
            int letter = letterOf(letters, i);
            if (letter > 26 || ended && letter != 0 || i == 0 && letter == 0) {
                return false;
            }
            ended = letter == 0;
        }
        return true;
    }

    // ---- cells and letters

    private static int cellAt(int x, int y) {
        return y * MOST_SIDE + x;
    }

    private static int columnOf(int cell) {
        return cell % MOST_SIDE;
    }

    private static int rowOf(int cell) {
        return cell / MOST_SIDE;
    }

    /** A cell as answers give it. */
    private static int codeOf(int cell) {
        return 64 * rowOf(cell) + columnOf(cell);
    }

    /** A letter of a packed name, 1 to 26, 0 where there is none. */
    private static int letterOf(int name, int i) {
        return name >> shiftOf(i) & 31;
    }

    private static int shiftOf(int letter) {
        return 25 - 5 * letter;
    }

    // ---- changes of lines

    /** Makes the trial the line with its point moved; answers 0 or why that is refused. */
    private int tryMove(int line, int point, int x, int y) {
        if (!isPoint(line, point) || !isCell(x, y)) {
            return INVALID;
        }
        trial.copyFrom(now.lines[line]);
        if (trial.xs[point] == x && trial.ys[point] == y) {
            return NOT_FOUND;
        }
        trial.xs[point] = x;
        trial.ys[point] = y;
        return trial.refusal(now.mostTurn);
    }

    /** Puts the trial in place of a line, as an operation; answers the labels lost or a refusal. */
    private int change(int line) {
        int refusal = trial.refusal(now.mostTurn);
        if (refusal < 0) {
            return refusal;
        }
        history.push(now);
        return putTrial(line);
    }

    /** Puts the trial in place of a line; answers the labels lost. */
    private int putTrial(int line) {
        now.lines[line].copyFrom(trial);
        board.drawLines(now);
        return now.labels.keepFitting(board);
    }

    private void show(Plan plan) {
        now.copyFrom(plan);
        board.drawLines(now);
        now.labels.keepFitting(board);
    }

    // ---- changes of labels

    private void putLabel(int cell, int position) {
        takeLabel(cell);
        now.labels.put(cell, position);
        board.paint(cell, position, cell + 1);
    }

    private void takeLabel(int cell) {
        int position = now.labels.positionOf(cell);
        if (position >= 0) {
            now.labels.drop(cell);
            board.paint(cell, position, 0);
        }
    }

    private boolean wantsLabel(int cell) {
        return board.stations[cell] > 0 && now.labels.positionOf(cell) < 0;
    }

    private int labelPlaces() {
        int count = 0;
        for (int cell = 0; cell < MOST_CELLS; cell++) {
            int position = wantsLabel(cell) ? board.firstFit(cell) : NOT_FOUND;
            if (position >= 0) {
                putLabel(cell, position);
                count++;
            }
        }
        return count;
    }

    /** Labels a place where no POSITION is free, if one other label can make way for it. */
    private int pushAside(int cell) {
        for (int position = 0; position < POSITIONS; position++) {
            int other = board.onlyLabelUnder(cell, position);
            int refuge = other < 0 ? NOT_FOUND : refugeBeside(cell, position, other);
            if (refuge >= 0) {
                history.push(now);
                takeLabel(other);
                putLabel(cell, position);
                putLabel(other, refuge);
                return position;
            }
        }
        return NOT_FOUND;
    }

    /**
     * The first POSITION of the other label if it makes way for a new one; nothing is changed. What
     * it leaves needs no paint, as its own cells do not count when a label is fitted.
     */
    private int refugeBeside(int cell, int position, int other) {
        int left = now.labels.positionOf(other);
        board.paint(cell, position, cell + 1);
        int refuge = board.firstFit(other);
        board.paint(cell, position, 0);
        board.paint(other, left, other + 1);
        return refuge;
    }

    // ---- classes

    /** A line: its points and what is set for it. */
    private static final class Line {
        int name;
        int points;
        int stops;
        int size;
        final int[] xs = new int[MOST_POINTS];
        final int[] ys = new int[MOST_POINTS];

        void copyFrom(Line other) {
            name = other.name;
            points = other.points;
            stops = other.stops;
            size = other.size;
            System.arraycopy(other.xs, 0, xs, 0, MOST_POINTS);
            System.arraycopy(other.ys, 0, ys, 0, MOST_POINTS);
        }

        void insertPoint(int point, int x, int y) {
            if (point < 0 || point > points || points >= MOST_POINTS) {
                return;
            }
            for (int i = points; i > point; i--) {
                xs[i] = xs[i - 1];
                ys[i] = ys[i - 1];
            }
            xs[point] = x;
            ys[point] = y;
            points++;
        }

        void dropPoint(int point) {
            if (point < 0 || point >= points) {
                return;
            }
            points--;
            for (int i = point; i < points; i++) {
                xs[i] = xs[i + 1];
                ys[i] = ys[i + 1];
            }
        }

        void turnRound() {
            int last = points - 1;
            for (int first = 0; first < last; first++) {
                int x = xs[first];
                int y = ys[first];
                xs[first] = xs[last];
                ys[first] = ys[last];
                xs[last] = x;
                ys[last] = y;
                last--;
            }
        }

        /** The way from a point to the next one, -1 if a line cannot run there. */
        int wayOfRun(int run) {
            if (run < 0 || run >= points - 1) {
                return -1;
            }
            int across = xs[run + 1] - xs[run];
            int down = ys[run + 1] - ys[run];
            if (across != 0 && down != 0 && Math.abs(across) != Math.abs(down)) {
                return -1;
            }
            return WAY_BY_SIGNS[3 * (signOf(down) + 1) + signOf(across) + 1];
        }

        private static int signOf(int number) {
            if (number == 0) {
                return 0;
            }
            return number < 0 ? -1 : 1;
        }

        int stepsOfRun(int run) {
            if (run < 0 || run >= points - 1) {
                return 0;
            }
            return Math.max(Math.abs(xs[run + 1] - xs[run]), Math.abs(ys[run + 1] - ys[run]));
        }

        int steps() {
            int sum = 0;
            for (int run = 0; run < points - 1; run++) {
                sum += stepsOfRun(run);
            }
            return sum;
        }

        int slantingSteps() {
            int sum = 0;
            for (int run = 0; run < points - 1; run++) {
                if (wayOfRun(run) % 2 == 1) {
                    sum += stepsOfRun(run);
                }
            }
            return sum;
        }

        int turnAt(int point) {
            if (point < 1 || point >= points - 1) {
                return 0;
            }
            int eighths = Math.abs(wayOfRun(point - 1) - wayOfRun(point));
            return Math.min(eighths, WAYS - eighths);
        }

        int countBends() {
            int count = 0;
            for (int i = 1; i < points - 1; i++) {
                if (turnAt(i) != 0) {
                    count++;
                }
            }
            return count;
        }

        int greatestTurn() {
            int most = 0;
            for (int i = 1; i < points - 1; i++) {
                most = Math.max(most, turnAt(i));
            }
            return most;
        }

        int sumOfTurns() {
            int sum = 0;
            for (int i = 1; i < points - 1; i++) {
                sum += turnAt(i);
            }
            return sum;
        }

        boolean isCrooked(int mostTurn) {
            for (int run = 0; run < points - 1; run++) {
                if (wayOfRun(run) < 0 || turnAt(run) > mostTurn) {
                    return true;
                }
            }
            return false;
        }

        boolean isShort() {
            return steps() < stops - 1;
        }

        int refusal(int mostTurn) {
            if (isCrooked(mostTurn)) {
                return CROOKED;
            }
            return isShort() ? SHORT : 0;
        }

        int longOf(int station) {
            return size + station % 3;
        }

        int stepOfStation(int station, int length) {
            int gaps = stops - 1;
            return gaps < 1 ? 0 : station * length / gaps;
        }

        /** The way of the step that ends after so many steps, for 0 that of the first step. */
        int wayToStep(int step) {
            int run = 0;
            int end = stepsOfRun(0);
            while (end < step && run < points - 2) {
                run++;
                end += stepsOfRun(run);
            }
            return wayOfRun(run);
        }

        int unevenness() {
            int length = steps();
            int most = 0;
            int least = length;
            for (int i = 1; i < stops; i++) {
                int gap = stepOfStation(i, length) - stepOfStation(i - 1, length);
                most = Math.max(most, gap);
                least = Math.min(least, gap);
            }
            return most - least;
        }
    }

    /** The labels that there are, in the order of the cells of their places. */
    private static final class Labels {
        int count;
        final int[] cells = new int[MOST_PLACES];
        final int[] positions = new int[MOST_PLACES];

        void copyFrom(Labels other) {
            count = other.count;
            System.arraycopy(other.cells, 0, cells, 0, MOST_PLACES);
            System.arraycopy(other.positions, 0, positions, 0, MOST_PLACES);
        }

        int positionOf(int cell) {
            int i = rankOf(cell);
            return i < count && cells[i] == cell ? positions[i] : NOT_FOUND;
        }

        /** How many labels have their place ahead of a cell. */
        int rankOf(int cell) {
            int rank = 0;
            while (rank < count && cells[rank] < cell) {
                rank++;
            }
            return rank;
        }

        void put(int cell, int position) {
            int rank = rankOf(cell);
            if (count >= MOST_PLACES) {
                return;
            }
            for (int i = count; i > rank; i--) {
                cells[i] = cells[i - 1];
                positions[i] = positions[i - 1];
            }
            cells[rank] = cell;
            positions[rank] = position;
            count++;
        }

        void drop(int cell) {
            int rank = rankOf(cell);
            if (rank >= count || cells[rank] != cell) {
                return;
            }
            count--;
            for (int i = rank; i < count; i++) {
                cells[i] = cells[i + 1];
                positions[i] = positions[i + 1];
            }
        }

        /** Paints the labels on a board without any, as far as they fit; answers how many are lost. */
        int keepFitting(Board board) {
            int fitting = 0;
            for (int i = 0; i < count; i++) {
                int cell = cells[i];
                int position = positions[i];
                if (board.stations[cell] > 0 && board.reason(cell, position) == 0) {
                    board.paint(cell, position, cell + 1);
                    cells[fitting] = cell;
                    positions[fitting] = position;
                    fitting++;
                }
            }
            int lost = count - fitting;
            count = fitting;
            return lost;
        }
    }

    /** All that a diagram is: its board, its lines and its labels. */
    private static final class Plan {
        int wide;
        int high;
        int mostTurn;
        int lineCount;
        final Line[] lines = new Line[MOST_LINES];
        final Labels labels = new Labels();

        Plan() {
            for (int i = 0; i < MOST_LINES; i++) {
                lines[i] = new Line();
            }
        }

        void begin(int columns, int rows, int turns) {
            wide = columns;
            high = rows;
            mostTurn = turns;
            lineCount = 0;
            labels.count = 0;
        }

        void copyFrom(Plan other) {
            wide = other.wide;
            high = other.high;
            mostTurn = other.mostTurn;
            lineCount = other.lineCount;
            for (int i = 0; i < lineCount; i++) {
                lines[i].copyFrom(other.lines[i]);
            }
            labels.copyFrom(other.labels);
        }

        int countStations() {
            int sum = 0;
            for (int i = 0; i < lineCount; i++) {
                sum += lines[i].stops;
            }
            return sum;
        }

        int lineNamed(int name) {
            for (int i = 0; i < lineCount; i++) {
                if (lines[i].name == name) {
                    return i;
                }
            }
            return -1;
        }

        void describe(Text text) {
            text.length = 0;
            text.addWord("board");
            text.addNumber(wide);
            text.addNumber(high);
            text.addWord(" turn");
            text.addNumber(mostTurn);
            text.addByte(';');
            for (int i = 0; i < lineCount; i++) {
                describeLine(lines[i], text);
            }
        }

        private static void describeLine(Line line, Text text) {
            text.addWord("line ");
            text.addName(line.name);
            text.addWord(" size");
            text.addNumber(line.size);
            text.addWord(" stops");
            text.addNumber(line.stops);
            for (int i = 0; i < line.points; i++) {
                text.addWord(" at");
                text.addNumber(line.xs[i]);
                text.addNumber(line.ys[i]);
            }
            text.addByte(';');
        }
    }

    /** The latest plans that an operation has left behind. */
    private static final class History {
        int count;
        int next;
        final Plan[] plans = new Plan[MOST_UNDONE];

        History() {
            for (int i = 0; i < MOST_UNDONE; i++) {
                plans[i] = new Plan();
            }
        }

        void forget() {
            count = 0;
        }

        void push(Plan plan) {
            plans[next].copyFrom(plan);
            next = (next + 1) % MOST_UNDONE;
            count = Math.min(count + 1, MOST_UNDONE);
        }

        void pop(Plan into) {
            if (count <= 0) {
                return;
            }
            next = (next + MOST_UNDONE - 1) % MOST_UNDONE;
            count--;
            into.copyFrom(plans[next]);
        }
    }

    /** What lies on each cell. */
    private static final class Board {
        int wide;
        int high;
        /** Masks of the lines that come to a cell. */
        final int[] lines = new int[MOST_CELLS];
        /** Four masks of the lines with a step from a cell in the ways 0 to 3, or back: eight bits each. */
        final int[] steps = new int[MOST_CELLS];
        final int[] stations = new int[MOST_CELLS];
        /** Masks of the lines that have stations on a cell. */
        final int[] stopping = new int[MOST_CELLS];
        /** The LONG of the place on a cell. */
        final int[] longs = new int[MOST_CELLS];
        /** One more than the cell of the place whose label lies on a cell, 0 for none. */
        final int[] labels = new int[MOST_CELLS];
        final int[] stationCells = new int[MOST_LINES * MOST_STOPS];

        int stationCell(int line, int station) {
            int i = line * MOST_STOPS + station;
            return i < 0 || i >= stationCells.length ? 0 : stationCells[i];
        }

        /** Makes the board empty. */
        void begin(int columns, int rows) {
            wide = columns;
            high = rows;
            Arrays.fill(lines, 0);
            Arrays.fill(steps, 0);
            Arrays.fill(stations, 0);
            Arrays.fill(stopping, 0);
            Arrays.fill(longs, 0);
            Arrays.fill(labels, 0);
        }

        /** Draws the lines on an empty board; labels are painted behind that. */
        void drawLines(Plan plan) {
            begin(plan.wide, plan.high);
            for (int i = 0; i < plan.lineCount; i++) {
                drawLine(plan.lines[i], i, plan.lines[i].steps());
            }
        }

        private void drawLine(Line line, int number, int length) {
            int cell = cellAt(line.xs[0], line.ys[0]);
            int step = 0;
            int station = 1;
            lines[cell] |= 1 << number;
            drawStation(line, number, 0, cell);
            for (int run = 0; run < line.points - 1; run++) {
                int way = line.wayOfRun(run);
                for (int left = line.stepsOfRun(run); left > 0; left--) {
                    cell = drawStep(cell, way, number);
                    step++;
                    if (station < line.stops && line.stepOfStation(station, length) == step) {
                        drawStation(line, number, station, cell);
                        station++;
                    }
                }
            }
        }

        /** Draws a step and answers the cell where it ends. */
        private int drawStep(int cell, int way, int number) {
            if (way < 0 || way >= WAYS) {
                return cell;
            }
            int end = cell + cellAt(ACROSS[way], DOWN[way]);
            if (end < 0 || end >= MOST_CELLS) {
                return cell;
            }
            int start = way < 4 ? cell : end;
            steps[start] |= 1 << 8 * (way % 4) + number;
            lines[end] |= 1 << number;
            return end;
        }

        private void drawStation(Line line, int number, int station, int cell) {
            stationCells[number * MOST_STOPS + station] = cell;
            stations[cell]++;
            stopping[cell] |= 1 << number;
            longs[cell] = Math.max(longs[cell], line.longOf(station));
        }

        private boolean holds(int x, int y) {
            return x >= 0 && x < wide && y >= 0 && y < high;
        }

        /** The lines with a step from a cell in a way from 0 to 3, or back. */
        private int stepMask(int cell, int way) {
            return steps[cell] >>> 8 * way & ALL_LINES;
        }

        int countPlaces() {
            return countMarked(stations);
        }

        int countLineCells() {
            return countMarked(lines);
        }

        int countLabelCells() {
            return countMarked(labels);
        }

        private static int countMarked(int[] marks) {
            int count = 0;
            for (int mark : marks) {
                if (mark != 0) {
                    count++;
                }
            }
            return count;
        }

        /** How many other lines have a cell with this one. */
        int countMet(int line) {
            int met = 0;
            for (int cell = 0; cell < MOST_CELLS; cell++) {
                if ((lines[cell] >> line & 1) != 0) {
                    met |= lines[cell];
                }
            }
            return Integer.bitCount(met & ~(1 << line));
        }

        int countShared(int mask) {
            return countOfTwo(lines, mask);
        }

        int countSharedPlaces(int mask) {
            return countOfTwo(stopping, mask);
        }

        private static int countOfTwo(int[] masks, int mask) {
            int count = 0;
            for (int each : masks) {
                if (isOfTwo(each & mask)) {
                    count++;
                }
            }
            return count;
        }

        private static boolean isOfTwo(int mask) {
            return (mask & mask - 1) != 0;
        }

        private boolean isCrossing(int cell, int mask) {
            return stations[cell] == 0 && isOfTwo(lines[cell] & mask);
        }

        int countCrossings(int mask) {
            int count = 0;
            for (int cell = 0; cell < MOST_CELLS; cell++) {
                if (isCrossing(cell, mask)) {
                    count++;
                }
            }
            return count;
        }

        int crossingOf(int i) {
            int ahead = 0;
            for (int cell = 0; cell < MOST_CELLS; cell++) {
                if (isCrossing(cell, ALL_LINES)) {
                    if (ahead == i) {
                        return codeOf(cell);
                    }
                    ahead++;
                }
            }
            return NOT_FOUND;
        }

        /** The crossings between cells, one for each pair of the masked lines where it is so. */
        int countBetween(int mask) {
            int count = 0;
            for (int cell = 0; cell < MOST_CELLS - 1; cell++) {
                int falling = stepMask(cell, 1) & mask;
                if (falling != 0) {
                    count += countPairs(falling, stepMask(cell + 1, 3) & mask);
                }
            }
            return count;
        }

        /** The pairs of different lines, one of each mask; a pair that is so both ways counts once. */
        private static int countPairs(int falling, int rising) {
            int inBoth = Integer.bitCount(falling & rising);
            int ordered = Integer.bitCount(falling) * Integer.bitCount(rising) - inBoth;
            return ordered - inBoth * (inBoth - 1) / 2;
        }

        /** The steps side by side, one for each pair of the masked lines where it is so. */
        int countSideBySide(int mask) {
            int count = 0;
            for (int cell = 0; cell < MOST_CELLS; cell++) {
                for (int way = 0; steps[cell] != 0 && way < 4; way++) {
                    int many = Integer.bitCount(stepMask(cell, way) & mask);
                    count += many * (many - 1) / 2;
                }
            }
            return count;
        }

        int nearestPlace(int x, int y) {
            int best = NOT_FOUND;
            int least = MOST_SIDE;
            for (int cell = 0; cell < MOST_CELLS; cell++) {
                if (stations[cell] > 0) {
                    int far = Math.max(Math.abs(columnOf(cell) - x), Math.abs(rowOf(cell) - y));
                    if (far < least) {
                        least = far;
                        best = codeOf(cell);
                    }
                }
            }
            return best;
        }

        /** The first cell of a label of a place, -1 if the label would be off the board. */
        private int beginOf(int cell, int position) {
            int left = columnOf(cell) + columnsTo(position, longs[cell]);
            int row = rowOf(cell) + rowsTo(position);
            return holds(left, row) && holds(left + longs[cell] - 1, row) ? cellAt(left, row) : -1;
        }

        /** The columns from a place to the first one of its label. */
        private static int columnsTo(int position, int length) {
            switch (position) {
                case 0:
                case 2:
                case 3:
                    return 1;
                case 1:
                case 4:
                case 5:
                    return -length;
                default:
                    return -(length / 2);
            }
        }

        /** The rows from a place to its label. */
        private static int rowsTo(int position) {
            switch (position) {
                case 0:
                case 1:
                    return 0;
                case 2:
                case 4:
                case 6:
                    return -1;
                default:
                    return 1;
            }
        }

        /** Marks the cells of a label of a place. */
        void paint(int cell, int position, int mark) {
            int from = beginOf(cell, position);
            if (from < 0) {
                return;
            }
            for (int i = from; i < from + longs[cell]; i++) {
                labels[i] = mark;
            }
        }

        /** Why a label of a place would not fit, 0 if it fits; its own one does not count. */
        int reason(int cell, int position) {
            int from = beginOf(cell, position);
            if (from < 0) {
                return OFF;
            }
            int answer = 0;
            for (int i = from; i < from + longs[cell]; i++) {
                if (lines[i] != 0) {
                    return ON_LINE;
                }
                if (labels[i] != 0 && labels[i] != cell + 1) {
                    answer = ON_LABEL;
                }
            }
            return answer;
        }

        int firstFit(int cell) {
            for (int position = 0; position < POSITIONS; position++) {
                if (reason(cell, position) == 0) {
                    return position;
                }
            }
            return NOT_FOUND;
        }

        /** The only place upon whose label a label would lie, if labels alone are in its way. */
        int onlyLabelUnder(int cell, int position) {
            int from = beginOf(cell, position);
            if (from < 0 || reason(cell, position) != ON_LABEL) {
                return NOT_FOUND;
            }
            int found = 0;
            for (int i = from; i < from + longs[cell]; i++) {
                if (labels[i] != 0 && found != 0 && labels[i] != found) {
                    return NOT_FOUND;
                }
                found = Math.max(found, labels[i]);
            }
            return found - 1;
        }

        /** The byte of the picture for a cell. */
        int byteOf(int cell) {
            if (stations[cell] > 0) {
                return 'o';
            }
            if (isCrossing(cell, ALL_LINES)) {
                return '+';
            }
            if (lines[cell] != 0) {
                return '0' + firstLineOn(cell);
            }
            return labels[cell] != 0 ? '=' : '.';
        }

        private int firstLineOn(int cell) {
            int line = 0;
            while (line < MOST_LINES && (lines[cell] >> line & 1) == 0) {
                line++;
            }
            return line;
        }
    }

    /** Ways of passengers from place to place. */
    private static final class Travel {
        /** The rides to each station, -1 where none is known. */
        private final int[] found = new int[MOST_LINES * MOST_STOPS];

        int leastRides(Plan plan, Board board, int from, int line, int station) {
            int target = line * MOST_STOPS + station;
            if (target < 0 || target >= found.length) {
                return NOT_FOUND;
            }
            Arrays.fill(found, -1);
            reach(plan, board, from, 0);
            boolean further = true;
            for (int rides = 0; further && found[target] < 0 && rides < MOST_PLACES; rides++) {
                further = rideOn(plan, board, rides);
            }
            return found[target] < 0 ? NOT_FOUND : found[target];
        }

        /** Goes one ride on from all stations that so many rides reach; answers whether that helps. */
        private boolean rideOn(Plan plan, Board board, int rides) {
            boolean further = false;
            for (int line = 0; line < plan.lineCount; line++) {
                int stops = plan.lines[line].stops;
                for (int i = 0; i < stops; i++) {
                    if (found[line * MOST_STOPS + i] == rides) {
                        boolean back = i > 0 && reachStation(plan, board, line, i - 1, rides + 1);
                        boolean on = i + 1 < stops && reachStation(plan, board, line, i + 1, rides + 1);
                        further = further || back || on;
                    }
                }
            }
            return further;
        }

        private boolean reachStation(Plan plan, Board board, int line, int station, int rides) {
            if (found[line * MOST_STOPS + station] >= 0) {
                return false;
            }
            reach(plan, board, board.stationCell(line, station), rides);
            return true;
        }

        private void reach(Plan plan, Board board, int cell, int rides) {
            for (int line = 0; line < plan.lineCount; line++) {
                for (int i = 0; i < plan.lines[line].stops; i++) {
                    if (board.stationCell(line, i) == cell) {
                        found[line * MOST_STOPS + i] = rides;
                    }
                }
            }
        }

        int leastChanges(Plan plan, Board board, int from, int to) {
            int reached = board.stopping[from];
            for (int changes = 0; changes < MOST_LINES; changes++) {
                if ((reached & board.stopping[to]) != 0) {
                    return changes;
                }
                reached = changeOn(plan, board, reached);
            }
            return NOT_FOUND;
        }

        /** The lines of a mask and those to which one can change from one of them. */
        private int changeOn(Plan plan, Board board, int mask) {
            int reached = mask;
            for (int line = 0; line < plan.lineCount; line++) {
                if ((mask >> line & 1) != 0) {
                    for (int i = 0; i < plan.lines[line].stops; i++) {
                        reached |= board.stopping[board.stationCell(line, i)];
                    }
                }
            }
            return reached;
        }
    }

    /** Up to a thousand bytes. */
    private static final class Text {
        int length;
        private final byte[] bytes = new byte[MOST_BYTES];

        int byteAt(int i) {
            return i < 0 || i >= length ? -1 : bytes[i] & 255;
        }

        void addByte(int b) {
            if (length >= 0 && length < MOST_BYTES) {
                bytes[length] = (byte) b;
                length++;
            }
        }

        void addInt(int four) {
            addByte(four >> 24);
            addByte(four >> 16);
            addByte(four >> 8);
            addByte(four);
        }

        void addWord(String word) {
            for (int i = 0; i < word.length(); i++) {
                addByte(word.charAt(i));
            }
        }

        /** Adds a space and a number from 0 to 99. */
        void addNumber(int number) {
            addByte(' ');
            if (number >= 10) {
                addByte('0' + number / 10);
            }
            addByte('0' + number % 10);
        }

        void addName(int name) {
            for (int i = 0; i < LETTERS; i++) {
                int letter = letterOf(name, i);
                if (letter != 0) {
                    addByte('a' - 1 + letter);
                }
            }
        }
    }

    /** Reads setup texts; start is the first byte of the token that is to be read next. */
    private static final class Parser {
        private static final int END = 0;
        private static final int NO_TOKEN = 1;
        private static final int NUMBER = 2;
        private static final int SEMICOLON = 3;
        private static final int NAME = 4;
        private static final int BOARD = 5;
        private static final int TURN = 6;
        private static final int LINE = 7;
        private static final int SIZE = 8;
        private static final int STOPS = 9;
        private static final int AT = 10;

        /** The keywords, packed as named() takes names: a is 1, the first letter stands highest. */
        private static final int WORD_BOARD = 2 << 25 | 15 << 20 | 1 << 15 | 18 << 10 | 4 << 5;
        private static final int WORD_TURN = 20 << 25 | 21 << 20 | 18 << 15 | 14 << 10;
        private static final int WORD_LINE = 12 << 25 | 9 << 20 | 14 << 15 | 5 << 10;
        private static final int WORD_SIZE = 19 << 25 | 9 << 20 | 26 << 15 | 5 << 10;
        private static final int WORD_STOPS = 19 << 25 | 20 << 20 | 15 << 15 | 16 << 10 | 19 << 5;
        private static final int WORD_AT = 1 << 25 | 20 << 20;

        private int place;
        private int start;
        private int kind;
        /** The number or the packed name that the token is. */
        private int token;
        /** The number that was read latest. */
        private int number;

        /** Reads a text into a plan; answers the error position, or NOT_FOUND without an error. */
        int parse(Text text, Plan plan) {
            place = 0;
            scan(text);
            if (!readBoard(text, plan)) {
                return start;
            }
            for (int i = 0; kind == LINE && i < MOST_LINES; i++) {
                if (!readHead(text, plan, plan.lines[i]) || !readPoints(text, plan, plan.lines[i])) {
                    return start;
                }
                plan.lineCount++;
            }
            return kind == END ? NOT_FOUND : start;
        }

        private boolean readBoard(Text text, Plan plan) {
            if (!pass(text, BOARD) || !readNumber(text, LEAST_SIDE, MOST_SIDE)) {
                return false;
            }
            int wide = number;
            if (!readNumber(text, LEAST_SIDE, MOST_SIDE)) {
                return false;
            }
            int high = number;
            if (!pass(text, TURN) || !readNumber(text, 0, MOST_TURN)) {
                return false;
            }
            plan.begin(wide, high, number);
            return pass(text, SEMICOLON);
        }

        /** Reads what stands ahead of the points of a line. */
        private boolean readHead(Text text, Plan plan, Line line) {
            line.points = 0;
            if (!pass(text, LINE) || kind != NAME || plan.lineNamed(token) >= 0) {
                return false;
            }
            line.name = token;
            scan(text);
            if (!pass(text, SIZE) || !readNumber(text, 1, MOST_SIZE)) {
                return false;
            }
            line.size = number;
            if (!pass(text, STOPS) || !readNumber(text, 2, MOST_STOPS)) {
                return false;
            }
            line.stops = number;
            return true;
        }

        /** Reads the points of a line and the semicolon behind them. */
        private boolean readPoints(Text text, Plan plan, Line line) {
            for (int i = 0; kind == AT && i < MOST_POINTS; i++) {
                scan(text);
                if (!readNumber(text, 0, plan.wide - 1) || !isNumber(0, plan.high - 1)) {
                    return false;
                }
                line.insertPoint(line.points, number, token);
                if (line.isCrooked(plan.mostTurn)) {
                    return false;
                }
                scan(text);
            }
            return line.points >= 2 && !line.isShort() && pass(text, SEMICOLON);
        }

        private boolean isNumber(int least, int most) {
            return kind == NUMBER && token >= least && token <= most;
        }

        /** Goes behind the token if it is a number in this range. */
        private boolean readNumber(Text text, int least, int most) {
            if (!isNumber(least, most)) {
                return false;
            }
            number = token;
            scan(text);
            return true;
        }

        /** Goes behind the token if it is of this kind. */
        private boolean pass(Text text, int wanted) {
            if (kind != wanted) {
                return false;
            }
            scan(text);
            return true;
        }

        /** Forms the next token. */
        private void scan(Text text) {
            while (place < text.length && isBlank(text.byteAt(place))) {
                place++;
            }
            start = place;
            int first = text.byteAt(place);
            if (first < 0) {
                kind = END;
            } else if (isLetter(first)) {
                scanWord(text);
            } else if (isDigit(first)) {
                scanNumber(text);
            } else {
                kind = first == ';' ? SEMICOLON : NO_TOKEN;
                place++;
            }
        }

        private void scanWord(Text text) {
            int letters = 0;
            token = 0;
            while (place < text.length && isLetter(text.byteAt(place))) {
                if (letters < LETTERS) {
                    token |= text.byteAt(place) - 'a' + 1 << shiftOf(letters);
                }
                letters++;
                place++;
            }
            kind = letters > LETTERS ? NO_TOKEN : kindOfWord(token);
        }

        private void scanNumber(Text text) {
            int digits = 0;
            token = 0;
            while (place < text.length && isDigit(text.byteAt(place))) {
                if (digits < 2) {
                    token = 10 * token + text.byteAt(place) - '0';
                }
                digits++;
                place++;
            }
            kind = digits > 2 ? NO_TOKEN : NUMBER;
        }

        private static int kindOfWord(int word) {
            switch (word) {
                case WORD_BOARD:
                    return BOARD;
                case WORD_TURN:
                    return TURN;
                case WORD_LINE:
                    return LINE;
                case WORD_SIZE:
                    return SIZE;
                case WORD_STOPS:
                    return STOPS;
                case WORD_AT:
                    return AT;
                default:
                    return NAME;
            }
        }

        private static boolean isBlank(int b) {
            return b == ' ' || b == '\n';
        }

        private static boolean isLetter(int b) {
            return b >= 'a' && b <= 'z';
        }

        private static boolean isDigit(int b) {
            return b >= '0' && b <= '9';
        }
    }
}
