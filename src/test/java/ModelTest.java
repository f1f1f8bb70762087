import java.util.ArrayList;
import java.util.List;
import java.util.TreeSet;

/**
 * Long runs of calls, always the same ones, on FloorGraph and on a model that is written from the
 * document in another way: it tries every drive, join by join, and takes the best of them.
 */
public final class ModelTest {
    private static final int RUNS = 1500;
    private static final int CALLS = 150;

    private final Check check;
    private final FloorGraph graph = new FloorGraph();
    private final Model model;
    private final int mostPieces;
    private final int mostJoins;
    private long seed;

    private ModelTest(Check check, int run) {
        this.check = check;
        this.model = new Model();
        this.mostPieces = 3 + run % 6;
        this.mostJoins = 4 + run % 9;
        this.seed = run * 7919L + 17;
        check.name("run " + run);
    }

    public static void main(String[] args) {
        Check check = new Check();
        for (int run = 0; run < RUNS; run++) {
            ModelTest test = new ModelTest(check, run);
            for (int call = 0; call < CALLS; call++) {
                test.callSomething(call);
            }
        }
        check.end("ModelTest");
    }

    private int pick(int below) {
        seed = seed * 6364136223846793005L + 1442695040888963407L;
        return (int) ((seed >>> 33) % below);
    }

    /** A number 0 .. below, now and then one outside. */
    private int about(int below) {
        int far = pick(40);
        return far == 0 ? -1 : far == 1 ? below : pick(Math.max(1, below));
    }

    private interface Answer {
        int get();
    }

    private static String told(Answer answer) {
        try {
            return String.valueOf(answer.get());
        } catch (RuntimeException e) {
            return e.getClass().getSimpleName();
        }
    }

    private void compare(String call, Answer got, Answer want) {
        check.due(call, told(got), told(want));
    }

    private void callSomething(int call) {
        int kind = call < 25 ? pick(4) : pick(24);
        if (kind < 3) {
            build(kind);
        } else if (kind < 9) {
            change(kind);
        } else {
            ask(kind);
        }
    }

    private void build(int kind) {
        if (kind == 0 && model.pieces.size() < mostPieces) {
            int level = pick(30) == 0 ? about(10) : pick(5) / 4;
            int length = pick(30) == 0 ? pick(3) * 1000 + pick(2) : 1 + pick(4);
            boolean twoWay = pick(3) > 0;
            compare("piece(" + level + ", " + length + ", " + twoWay + ")",
                    () -> graph.piece(level, length, twoWay),
                    () -> model.piece(level, length, twoWay));
        } else if (model.joins.size() < mostJoins) {
            int piece = about(model.pieces.size());
            int other = about(model.pieces.size());
            int seconds = pick(30) == 0 ? pick(4) * 50 - 50 : pick(4);
            int end = about(2);
            int otherEnd = about(2);
            if (pick(4) > 0) {
                compare("join(" + piece + ", " + end + ", " + other + ", " + otherEnd + ", "
                                + seconds + ")",
                        () -> graph.join(piece, end, other, otherEnd, seconds),
                        () -> model.join(piece, end, other, otherEnd, seconds));
            } else {
                compare("lift(" + piece + ", " + other + ", " + seconds + ")",
                        () -> graph.lift(piece, other, seconds),
                        () -> model.lift(piece, other, seconds));
            }
        }
    }

    private void change(int kind) {
        int piece = about(model.pieces.size());
        int hour = 11 + about(3);
        boolean on = pick(3) == 0;
        int width = pick(20) == 0 ? pick(3) * 250 + pick(2) : 90 + pick(15);
        switch (kind) {
            case 3 -> compare("robot(" + width + ")",
                    () -> graph.robot(width), () -> model.robot(width));
            case 4 -> {
                int join = about(model.joins.size());
                int direction = about(2);
                compare("turn(" + join + ", " + direction + ", " + on + ")",
                        () -> graph.turn(join, direction, on),
                        () -> model.turn(join, direction, on));
            }
            case 5 -> compare("width(" + piece + ", " + width + ")", () -> {
                graph.width(piece, width);
                return 0;
            }, () -> model.width(piece, width));
            case 6 -> compare("zone(" + piece + ", " + hour + ", " + on + ")",
                    () -> graph.zone(piece, hour, on), () -> model.zone(piece, hour, on));
            case 7 -> compare("closed(" + piece + ", " + on + ")",
                    () -> graph.closed(piece, on), () -> model.closed(piece, on));
            default -> compare("charger(" + piece + ")",
                    () -> graph.charger(piece), () -> model.charger(piece));
        }
    }

    private void ask(int kind) {
        int robot = about(model.robots.size());
        int from = about(model.pieces.size());
        int to = about(model.pieces.size());
        int hour = 11 + about(3);
        String journey = "(" + robot + ", " + from + ", " + to + ", " + hour + ")";
        switch (kind) {
            case 9, 10, 11, 12 -> compare("way" + journey,
                    () -> graph.way(robot, from, to, hour),
                    () -> model.way(robot, from, to, hour));
            case 13, 14 -> compare("same" + journey,
                    () -> graph.same(robot, from, to, hour) ? 1 : 0,
                    () -> model.same(robot, from, to, hour));
            case 15 -> compare("nearest(" + robot + ", " + from + ", " + hour + ")",
                    () -> graph.nearest(robot, from, hour),
                    () -> model.nearest(robot, from, hour));
            case 16, 17, 18 -> {
                int i = about(model.chargers.size());
                int j = about(model.chargers.size());
                compare("table(" + i + ", " + j + ")",
                        () -> graph.table(i, j), () -> model.table(i, j));
            }
            case 19, 20 -> {
                int most = about(6);
                compare("plain" + journey + " most " + most,
                        () -> graph.plain(robot, from, to, hour, most),
                        () -> model.plain(robot, from, to, hour, most));
            }
            default -> lookAtAll();
        }
    }

    private void lookAtAll() {
        for (int i = -1; i <= model.told.size(); i++) {
            int at = i;
            compare("step(" + at + ")", () -> graph.step(at), () -> model.step(at));
        }
        for (int what = -1; what <= 5; what++) {
            int which = what;
            compare("count(" + which + ")", () -> graph.count(which), () -> model.count(which));
        }
        compare("rows()", graph::rows, () -> model.worked);
    }

    private static final class Piece {
        int level;
        int length;
        int width = 100;
        boolean twoWay;
        boolean closed;
        final TreeSet<Integer> hours = new TreeSet<>();

        boolean lets(int end, int robotWidth, int hour) {
            return !closed && !hours.contains(hour) && robotWidth <= width && (end == 0 || twoWay);
        }
    }

    private static final class Join {
        final int[] pieces = new int[2];
        final int[] ends = new int[2];
        final boolean[] barred = new boolean[2];
        int seconds;
    }

    /** Every drive from one piece to another that comes to no end twice. */
    private static final class Tries {
        final Model model;
        final int robotWidth;
        final int hour;
        final int to;
        final List<Integer> joins = new ArrayList<>();
        final List<Integer> ends = new ArrayList<>();
        int best = -1;
        List<Integer> bestJoins = List.of();
        List<Integer> bestPieces = List.of();
        final TreeSet<String> plain = new TreeSet<>();

        Tries(Model model, int robot, int from, int to, int hour) {
            this.model = model;
            this.robotWidth = model.robots.get(robot);
            this.hour = hour;
            this.to = to;
            for (int end = 0; end < 2; end++) {
                if (end == 1 || model.pieces.get(from).twoWay) {
                    ends.add(2 * from + end);
                    drive(from, end, 0);
                    ends.clear();
                }
            }
        }

        void drive(int piece, int end, int second) {
            for (int j = 0; j < model.joins.size(); j++) {
                Join join = model.joins.get(j);
                for (int side = 0; side < 2; side++) {
                    if (join.pieces[side] == piece && join.ends[side] == end
                            && !join.barred[side]) {
                        int next = join.pieces[1 - side];
                        int nextEnd = join.ends[1 - side];
                        if (model.pieces.get(next).lets(nextEnd, robotWidth, hour)) {
                            joins.add(j);
                            enter(next, nextEnd, second + join.seconds);
                            joins.remove(joins.size() - 1);
                        }
                    }
                }
            }
        }

        void enter(int piece, int end, int second) {
            int far = 2 * piece + 1 - end;
            if (piece == to) {
                arrive(second);
            } else if (!ends.contains(far) && piece != ends.get(0) / 2) {
                ends.add(far);
                drive(piece, 1 - end, second + model.pieces.get(piece).length);
                ends.remove(ends.size() - 1);
            }
        }

        void arrive(int second) {
            List<Integer> pieces = new ArrayList<>();
            for (int end : ends) {
                pieces.add(end / 2);
            }
            pieces.add(to);
            if (new TreeSet<>(pieces).size() == pieces.size()) {
                plain.add(pieces.size() - 2 + " between by " + joins);
            }
            if (best == -1 || second < best || second == best && isLower()) {
                best = second;
                bestJoins = new ArrayList<>(joins);
                bestPieces = pieces;
            }
        }

        /** Whether these joins, seen from the last one, are lower than the best so far. */
        boolean isLower() {
            int mine = joins.size() - 1;
            int other = bestJoins.size() - 1;
            while (mine >= 0 && other >= 0) {
                if (!joins.get(mine).equals(bestJoins.get(other))) {
                    return joins.get(mine) < bestJoins.get(other);
                }
                mine--;
                other--;
            }
            return false;
        }
    }

    private static final class Model {
        final List<Piece> pieces = new ArrayList<>();
        final List<Join> joins = new ArrayList<>();
        final List<Integer> robots = new ArrayList<>();
        final List<Integer> chargers = new ArrayList<>();
        final TreeSet<Integer> goodRows = new TreeSet<>();
        List<Integer> told = List.of();
        int worked = 0;

        static void need(boolean right) {
            if (!right) {
                throw new IllegalArgumentException();
            }
        }

        static void room(boolean there) {
            if (!there) {
                throw new UnsupportedOperationException();
            }
        }

        static boolean within(int number, int least, int most) {
            return least <= number && number <= most;
        }

        boolean isPiece(int piece) {
            return within(piece, 0, pieces.size() - 1);
        }

        int piece(int level, int length, boolean twoWay) {
            need(within(level, 0, 9) && within(length, 1, 1000));
            room(pieces.size() < 20);
            Piece piece = new Piece();
            piece.level = level;
            piece.length = length;
            piece.twoWay = twoWay;
            pieces.add(piece);
            goodRows.clear();
            return pieces.size() - 1;
        }

        int join(int piece, int end, int other, int otherEnd, int seconds) {
            need(isPiece(piece) && isPiece(other) && within(end, 0, 1) && within(otherEnd, 0, 1));
            need(piece != other && pieces.get(piece).level == pieces.get(other).level);
            return add(piece, end, other, otherEnd, seconds);
        }

        int lift(int piece, int other, int seconds) {
            need(isPiece(piece) && isPiece(other));
            need(pieces.get(piece).level != pieces.get(other).level);
            return add(piece, 1, other, 1, seconds);
        }

        private int add(int piece, int end, int other, int otherEnd, int seconds) {
            need(within(seconds, 0, 100));
            room(joins.size() < 40);
            Join join = new Join();
            join.pieces[0] = piece;
            join.pieces[1] = other;
            join.ends[0] = end;
            join.ends[1] = otherEnd;
            join.seconds = seconds;
            joins.add(join);
            goodRows.clear();
            return joins.size() - 1;
        }

        int turn(int join, int direction, boolean barred) {
            need(within(join, 0, joins.size() - 1) && within(direction, 0, 1));
            boolean[] both = joins.get(join).barred;
            both[direction] = barred;
            goodRows.clear();
            return both[0] && both[1] ? 2 : both[0] || both[1] ? 1 : 0;
        }

        int width(int piece, int width) {
            need(isPiece(piece) && within(width, 1, 500));
            pieces.get(piece).width = width;
            goodRows.clear();
            return 0;
        }

        int zone(int piece, int hour, boolean bars) {
            need(isPiece(piece) && within(hour, 0, 23));
            TreeSet<Integer> hours = pieces.get(piece).hours;
            if (bars) {
                hours.add(hour);
            } else {
                hours.remove(hour);
            }
            goodRows.clear();
            return hours.size();
        }

        int closed(int piece, boolean on) {
            need(isPiece(piece));
            pieces.get(piece).closed = on;
            goodRows.clear();
            return (int) pieces.stream().filter(p -> p.closed).count();
        }

        int robot(int width) {
            need(within(width, 1, 500));
            room(robots.size() < 6);
            if (pieces.stream().allMatch(p -> width > p.width)) {
                return -1;
            }
            robots.add(width);
            goodRows.clear();
            return robots.size() - 1;
        }

        private Tries tries(int robot, int from, int to, int hour) {
            need(within(robot, 0, robots.size() - 1) && isPiece(from) && isPiece(to));
            need(within(hour, 0, 23));
            return new Tries(this, robot, from, to, hour);
        }

        private int seconds(int robot, int from, int to, int hour) {
            Tries tries = tries(robot, from, to, hour);
            return from == to ? 0 : tries.best;
        }

        int way(int robot, int from, int to, int hour) {
            Tries tries = tries(robot, from, to, hour);
            told = from == to ? List.of(from) : tries.bestPieces;
            return from == to ? 0 : tries.best;
        }

        int step(int i) {
            return within(i, 0, told.size() - 1) ? told.get(i) : -1;
        }

        int same(int robot, int a, int b, int hour) {
            return seconds(robot, a, b, hour) == seconds(robot, b, a, hour) ? 1 : 0;
        }

        int charger(int piece) {
            need(isPiece(piece));
            if (chargers.contains(piece)) {
                throw new IllegalStateException();
            }
            room(chargers.size() < 8);
            chargers.add(piece);
            goodRows.clear();
            return chargers.size();
        }

        int nearest(int robot, int from, int hour) {
            need(within(robot, 0, robots.size() - 1) && isPiece(from) && within(hour, 0, 23));
            int best = -1;
            int bestSeconds = -1;
            for (int piece : new TreeSet<>(chargers)) {
                int seconds = seconds(robot, from, piece, hour);
                if (seconds >= 0 && (best == -1 || seconds < bestSeconds)) {
                    best = piece;
                    bestSeconds = seconds;
                }
            }
            return best;
        }

        int table(int i, int j) {
            if (robots.isEmpty()) {
                throw new IllegalStateException();
            }
            int last = chargers.size() - 1;
            if (!within(i, 0, last) || !within(j, 0, last)) {
                throw new ArrayIndexOutOfBoundsException();
            }
            if (goodRows.add(i)) {
                worked++;
            }
            return seconds(0, chargers.get(i), chargers.get(j), 12);
        }

        int plain(int robot, int from, int to, int hour, int most) {
            need(within(most, 0, 5));
            Tries tries = tries(robot, from, to, hour);
            if (from == to) {
                return 0;
            }
            return (int) tries.plain.stream()
                    .filter(way -> way.charAt(0) - '0' <= most)
                    .filter(way -> way.charAt(1) == ' ')
                    .count();
        }

        int count(int what) {
            int barred = 0;
            for (Join join : joins) {
                barred += (join.barred[0] ? 1 : 0) + (join.barred[1] ? 1 : 0);
            }
            int[] counts = {pieces.size(), joins.size(), robots.size(), chargers.size(), barred};
            return within(what, 0, 4) ? counts[what] : -1;
        }
    }
}
