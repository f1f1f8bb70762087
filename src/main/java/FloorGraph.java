import java.util.Arrays;

/**
 * The floor of a warehouse: pieces with two ends, joins and lifts between them, and robots that
 * drive from piece to piece in one hour of the day.
 *
 * <p>An end is held as one number, 2 * piece + end, so that {@code end ^ 1} is the same piece's
 * other end. A passage is a join in one of its directions, held as 2 * join + direction, so that
 * passages in their order are joins in theirs.
 */
public final class FloorGraph {
    private static final int MOST_PIECES = 20;
    private static final int MOST_ENDS = 2 * MOST_PIECES;
    private static final int MOST_JOINS = 40;
    private static final int MOST_PASSAGES = 2 * MOST_JOINS;
    private static final int MOST_ROBOTS = 6;
    private static final int MOST_CHARGERS = 8;
    private static final int MOST_BETWEEN = 5;
    private static final int TOP_LEVEL = 9;
    private static final int LONGEST = 1000;
    private static final int WIDEST = 500;
    private static final int FIRST_WIDTH = 100;
    private static final int LONGEST_TURN = 100;
    private static final int HOURS = 24;
    private static final int TABLE_HOUR = 12;
    private static final int NONE = -1;
    // Far above any second of a drive: it comes to forty ends, each after at most 1100 seconds more.
    private static final int NEVER = 1000000;

    private final Floor floor = new Floor();
    private final Drive drive = new Drive();
    private final int[] robotWidths = new int[MOST_ROBOTS];
    private int robots;
    private final int[] chargerPieces = new int[MOST_CHARGERS];
    private int chargers;
    private final int[] wayBack = new int[MOST_ENDS];
    private int waySize;
    private final int[][] tableRows = new int[MOST_CHARGERS][MOST_CHARGERS];
    // A row is good while no change has come since it was worked. No row exists before a charger
    // came, which is a change itself, so the zeros of the beginning stand for "never worked".
    private final int[] rowWorkedAt = new int[MOST_CHARGERS];
    private int changes;
    private int rowsWorked;

    public FloorGraph() {
    }

    public int piece(int level, int length, boolean twoWay)
            throws IllegalArgumentException, UnsupportedOperationException {
        if (level < 0 || level > TOP_LEVEL) {
            throw new IllegalArgumentException("no such level");
        }
        if (length < 1 || length > LONGEST) {
            throw new IllegalArgumentException("length out of range");
        }
        if (floor.pieces >= MOST_PIECES) {
            throw new UnsupportedOperationException("there are twenty pieces");
        }
        changes++;
        return floor.addPiece(level, length, twoWay);
    }

    public int join(int piece, int end, int other, int otherEnd, int seconds)
            throws IllegalArgumentException, UnsupportedOperationException {
        needPiece(piece);
        needPiece(other);
        needZeroOrOne(end);
        needZeroOrOne(otherEnd);
        if (piece == other) {
            throw new IllegalArgumentException("a piece is not joined to itself");
        }
        if (floor.levels[piece] != floor.levels[other]) {
            throw new IllegalArgumentException("pieces of different levels");
        }
        return joinEnds(2 * piece + end, 2 * other + otherEnd, seconds);
    }

    public int lift(int piece, int other, int seconds)
            throws IllegalArgumentException, UnsupportedOperationException {
        needPiece(piece);
        needPiece(other);
        if (floor.levels[piece] == floor.levels[other]) {
            throw new IllegalArgumentException("pieces of one level");
        }
        return joinEnds(2 * piece + 1, 2 * other + 1, seconds);
    }

    public int turn(int join, int direction, boolean barred) throws IllegalArgumentException {
        if (join < 0 || join >= floor.passages / 2) {
            throw new IllegalArgumentException("no such join");
        }
        needZeroOrOne(direction);
        changes++;
        floor.barred[2 * join + direction] = barred;
        return floor.barredAmong(2 * join, 2 * join + 2);
    }

    public void width(int piece, int width) throws IllegalArgumentException {
        needPiece(piece);
        needWidth(width);
        changes++;
        floor.widths[piece] = width;
    }

    public int zone(int piece, int hour, boolean bars) throws IllegalArgumentException {
        needPiece(piece);
        needHour(hour);
        changes++;
        return floor.setZone(piece, hour, bars);
    }

    public int closed(int piece, boolean on) throws IllegalArgumentException {
        needPiece(piece);
        changes++;
        floor.shut[piece] = on;
        return floor.shutPieces();
    }

    public int robot(int width) throws IllegalArgumentException, UnsupportedOperationException {
        needWidth(width);
        if (robots >= MOST_ROBOTS) {
            throw new UnsupportedOperationException("there are six robots");
        }
        if (!floor.hasPieceFor(width)) {
            return NONE;
        }
        changes++;
        robotWidths[robots] = width;
        robots++;
        return robots - 1;
    }

    public int way(int robot, int from, int to, int hour) throws IllegalArgumentException {
        needJourney(robot, from, to, hour);
        drive.begin(floor, robotWidths[robot], hour);
        drive.spread(floor, from);
        waySize = drive.trace(floor, from, to, wayBack);
        return drive.secondsTo(floor, from, to);
    }

    public int step(int i) {
        if (i < 0 || i >= waySize) {
            return NONE;
        }
        return wayBack[waySize - 1 - i];
    }

    public boolean same(int robot, int a, int b, int hour) throws IllegalArgumentException {
        needJourney(robot, a, b, hour);
        drive.begin(floor, robotWidths[robot], hour);
        drive.spread(floor, a);
        int there = drive.secondsTo(floor, a, b);
        drive.spread(floor, b);
        int back = drive.secondsTo(floor, b, a);
        return there == back;
    }

    public int charger(int piece)
            throws IllegalArgumentException, IllegalStateException, UnsupportedOperationException {
        needPiece(piece);
        if (hasCharger(piece)) {
            throw new IllegalStateException("the piece has a charger");
        }
        if (chargers >= MOST_CHARGERS) {
            throw new UnsupportedOperationException("there are eight chargers");
        }
        changes++;
        chargerPieces[chargers] = piece;
        chargers++;
        return chargers;
    }

    public int nearest(int robot, int from, int hour) throws IllegalArgumentException {
        needJourney(robot, from, from, hour);
        drive.begin(floor, robotWidths[robot], hour);
        drive.spread(floor, from);
        int best = NONE;
        int bestSeconds = NEVER;
        for (int piece = 0; piece < floor.pieces; piece++) {
            if (hasCharger(piece)) {
                int seconds = drive.secondsTo(floor, from, piece);
                if (seconds != NONE && seconds < bestSeconds) {
                    best = piece;
                    bestSeconds = seconds;
                }
            }
        }
        return best;
    }

    public int table(int i, int j) throws IllegalStateException, ArrayIndexOutOfBoundsException {
        if (robots == 0) {
            throw new IllegalStateException("there is no robot");
        }
        if (i < 0 || i >= chargers || j < 0 || j >= chargers) {
            throw new ArrayIndexOutOfBoundsException("no such charger");
        }
        if (rowWorkedAt[i] != changes) {
            workRow(i);
        }
        return tableRows[i][j];
    }

    public int rows() {
        return rowsWorked;
    }

    public int plain(int robot, int from, int to, int hour, int most)
            throws IllegalArgumentException {
        needJourney(robot, from, to, hour);
        if (most < 0 || most > MOST_BETWEEN) {
            throw new IllegalArgumentException("pieces between out of range");
        }
        if (from == to) {
            return 0;
        }
        drive.begin(floor, robotWidths[robot], hour);
        return drive.waysBetween(floor, from, to, most);
    }

    public int count(int what) {
        switch (what) {
            case 0:
                return floor.pieces;
            case 1:
                return floor.passages / 2;
            case 2:
                return robots;
            case 3:
                return chargers;
            case 4:
                return floor.barredAmong(0, floor.passages);
            default:
                return NONE;
        }
    }

    private int joinEnds(int first, int second, int seconds) {
        if (seconds < 0 || seconds > LONGEST_TURN) {
            throw new IllegalArgumentException("seconds out of range");
        }
        if (floor.passages >= MOST_PASSAGES) {
            throw new UnsupportedOperationException("there are forty joins");
        }
        changes++;
        return floor.addJoin(first, second, seconds);
    }

    private boolean hasCharger(int piece) {
        for (int i = 0; i < chargers; i++) {
            if (chargerPieces[i] == piece) {
                return true;
            }
        }
        return false;
    }

    private void workRow(int i) {
        int from = chargerPieces[i];
        drive.begin(floor, robotWidths[0], TABLE_HOUR);
        drive.spread(floor, from);
        for (int j = 0; j < chargers; j++) {
            tableRows[i][j] = drive.secondsTo(floor, from, chargerPieces[j]);
        }
        rowWorkedAt[i] = changes;
        rowsWorked++;
    }

    private void needJourney(int robot, int from, int to, int hour) {
        if (robot < 0 || robot >= robots) {
            throw new IllegalArgumentException("no such robot");
        }
        needPiece(from);
        needPiece(to);
        needHour(hour);
    }

    private void needPiece(int piece) {
        if (piece < 0 || piece >= floor.pieces) {
            throw new IllegalArgumentException("no such piece");
        }
    }

    private static void needHour(int hour) {
        if (hour < 0 || hour >= HOURS) {
            throw new IllegalArgumentException("no such hour");
        }
    }

    private static void needWidth(int width) {
        if (width < 1 || width > WIDEST) {
            throw new IllegalArgumentException("width out of range");
        }
    }

    private static void needZeroOrOne(int number) {
        if (number != 0 && number != 1) {
            throw new IllegalArgumentException("neither 0 nor 1");
        }
    }

    /** The pieces and the joins. Its callers have looked at every argument. */
    private static final class Floor {
        private int pieces;
        private final int[] levels = new int[MOST_PIECES];
        private final int[] lengths = new int[MOST_PIECES];
        private final int[] widths = new int[MOST_PIECES];
        private final boolean[] twoWay = new boolean[MOST_PIECES];
        private final boolean[] shut = new boolean[MOST_PIECES];
        private final int[] barredHours = new int[MOST_PIECES];
        private int passages;
        private final int[] starts = new int[MOST_PASSAGES];
        private final int[] goals = new int[MOST_PASSAGES];
        private final int[] turnSeconds = new int[MOST_PASSAGES];
        private final boolean[] barred = new boolean[MOST_PASSAGES];
        // A join has its ends on two pieces, so an end has at most one passage of each join.
        private final int[][] leaving = new int[MOST_ENDS][MOST_JOINS];
        private final int[] leavings = new int[MOST_ENDS];

        private int addPiece(int level, int length, boolean bothWays) {
            int piece = pieces;
            levels[piece] = level;
            lengths[piece] = length;
            widths[piece] = FIRST_WIDTH;
            twoWay[piece] = bothWays;
            pieces++;
            return piece;
        }

        private int addJoin(int first, int second, int seconds) {
            addPassage(first, second, seconds);
            addPassage(second, first, seconds);
            return passages / 2 - 1;
        }

        private void addPassage(int start, int goal, int seconds) {
            starts[passages] = start;
            goals[passages] = goal;
            turnSeconds[passages] = seconds;
            leaving[start][leavings[start]] = passages;
            leavings[start]++;
            passages++;
        }

        /** How many of the passages from one (within) to another (without) are barred. */
        private int barredAmong(int first, int behind) {
            int found = 0;
            for (int passage = first; passage < behind; passage++) {
                if (barred[passage]) {
                    found++;
                }
            }
            return found;
        }

        private int setZone(int piece, int hour, boolean bars) {
            int bit = 1 << hour;
            if (bars) {
                barredHours[piece] |= bit;
            } else {
                barredHours[piece] &= ~bit;
            }
            return Integer.bitCount(barredHours[piece]);
        }

        private int shutPieces() {
            int found = 0;
            for (int piece = 0; piece < pieces; piece++) {
                if (shut[piece]) {
                    found++;
                }
            }
            return found;
        }

        private boolean hasPieceFor(int robotWidth) {
            for (int piece = 0; piece < pieces; piece++) {
                if (widths[piece] >= robotWidth) {
                    return true;
                }
            }
            return false;
        }

        private boolean mayLeave(int end) {
            return end % 2 == 1 || twoWay[end / 2];
        }

        private boolean mayEnter(int end, int robotWidth, int hour) {
            int piece = end / 2;
            return !shut[piece]
                    && (barredHours[piece] >> hour & 1) == 0
                    && widths[piece] >= robotWidth
                    && (end % 2 == 0 || twoWay[piece]);
        }
    }

    /**
     * The driving of one robot in one hour. It is made once and used for all questions: begin()
     * comes first, then spread() for what asks seconds. An end counts as reached only when the
     * robot has driven the piece to it (or stood there at first): the document's way has nothing
     * else before an end than the entering of its piece by the other one.
     */
    private static final class Drive {
        private final boolean[] open = new boolean[MOST_PASSAGES];
        private final int[] reached = new int[MOST_ENDS];
        private final boolean[] met = new boolean[MOST_PIECES];

        private void begin(Floor floor, int robotWidth, int hour) {
            for (int passage = 0; passage < floor.passages; passage++) {
                open[passage] = !floor.barred[passage]
                        && floor.mayEnter(floor.goals[passage], robotWidth, hour);
            }
        }

        /** Finds the least second at which each end is reached by a robot that stands on a piece. */
        private void spread(Floor floor, int from) {
            Arrays.fill(reached, NEVER);
            for (int end = 2 * from; end <= 2 * from + 1; end++) {
                if (floor.mayLeave(end)) {
                    reached[end] = 0;
                }
            }
            boolean sooner = true;
            // A least drive comes to no end twice, so there are no more rounds than ends.
            for (int round = 0; sooner && round < MOST_ENDS; round++) {
                sooner = spreadOnce(floor);
            }
        }

        private boolean spreadOnce(Floor floor) {
            boolean sooner = false;
            for (int passage = 0; passage < floor.passages; passage++) {
                int end = floor.goals[passage] ^ 1;
                int second = secondBehind(floor, passage);
                if (second < reached[end]) {
                    reached[end] = second;
                    sooner = true;
                }
            }
            return sooner;
        }

        /** When a piece is entered by this passage at the soonest, or NEVER. */
        private int secondAt(Floor floor, int passage) {
            int before = reached[floor.starts[passage]];
            if (!open[passage] || before == NEVER) {
                return NEVER;
            }
            return before + floor.turnSeconds[passage];
        }

        /** When the other end of the piece that this passage enters is reached by it, or NEVER. */
        private int secondBehind(Floor floor, int passage) {
            int second = secondAt(floor, passage);
            if (second == NEVER) {
                return NEVER;
            }
            return second + floor.lengths[floor.goals[passage] / 2];
        }

        private int secondsTo(Floor floor, int from, int to) {
            if (from == to) {
                return 0;
            }
            int passage = lastPassage(floor, to);
            return passage == NONE ? NONE : secondAt(floor, passage);
        }

        /** The passage by which a piece is entered first, of equal ones the lowest, or NONE. */
        private int lastPassage(Floor floor, int to) {
            int best = NONE;
            int bestSecond = NEVER;
            for (int passage = 0; passage < floor.passages; passage++) {
                if (floor.goals[passage] / 2 == to) {
                    int second = secondAt(floor, passage);
                    if (second < bestSecond) {
                        best = passage;
                        bestSecond = second;
                    }
                }
            }
            return best;
        }

        /** The lowest passage by which an end was reached just when it was, or NONE. */
        private int passageBefore(Floor floor, int end) {
            if (reached[end] == 0) {
                return NONE;
            }
            for (int passage = 0; passage < floor.passages; passage++) {
                if (floor.goals[passage] == (end ^ 1)
                        && secondBehind(floor, passage) == reached[end]) {
                    return passage;
                }
            }
            return NONE;
        }

        /** Writes the pieces of the way, the last one first, and tells how many there are. */
        private int trace(Floor floor, int from, int to, int[] wayBack) {
            if (from == to) {
                wayBack[0] = to;
                return 1;
            }
            int passage = lastPassage(floor, to);
            if (passage == NONE) {
                return 0;
            }
            wayBack[0] = to;
            int size = 1;
            // The ends before one another are reached at falling seconds, so none comes twice.
            while (passage != NONE && size < wayBack.length) {
                int end = floor.starts[passage];
                wayBack[size] = end / 2;
                size++;
                passage = passageBefore(floor, end);
            }
            return size;
        }

        private int waysBetween(Floor floor, int from, int to, int most) {
            for (int piece = 0; piece < floor.pieces; piece++) {
                met[piece] = piece == from;
            }
            int ways = 0;
            for (int end = 2 * from; end <= 2 * from + 1; end++) {
                if (floor.mayLeave(end)) {
                    ways += waysOn(floor, end, to, most);
                }
            }
            return ways;
        }

        /** The recursion goes one deeper for each piece between, of which five are the most. */
        private int waysOn(Floor floor, int end, int to, int between) {
            int ways = 0;
            for (int k = 0; k < floor.leavings[end]; k++) {
                int passage = floor.leaving[end][k];
                int goal = floor.goals[passage];
                int piece = goal / 2;
                if (!open[passage] || met[piece]) {
                    continue;
                }
                if (piece == to) {
                    ways++;
                } else if (between > 0) {
                    met[piece] = true;
                    ways += waysOn(floor, goal ^ 1, to, between - 1);
                    met[piece] = false;
                }
            }
            return ways;
        }
    }
}
