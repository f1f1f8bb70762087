import java.util.Arrays;

/** Floors on which the tests drive, and what can be seen of a floor. */
final class Floors {
    static final int LOW = Integer.MIN_VALUE;
    static final int HIGH = Integer.MAX_VALUE;

    private Floors() {
    }

    /** Two-way pieces of level 0 with these lengths, and robot 0 of width 50. */
    static FloorGraph twoWay(int... lengths) {
        FloorGraph x = new FloorGraph();
        for (int length : lengths) {
            x.piece(0, length, true);
        }
        x.robot(50);
        return x;
    }

    /** Two-way pieces of 10 seconds, end 1 of each joined with end 0 of the next one by 1 second. */
    static FloorGraph line(int pieces) {
        FloorGraph x = new FloorGraph();
        for (int i = 0; i < pieces; i++) {
            x.piece(0, 10, true);
        }
        for (int i = 0; i + 1 < pieces; i++) {
            x.join(i, 1, i + 1, 0, 1);
        }
        x.robot(50);
        return x;
    }

    /**
     * A floor with something of everything: pieces 0 to 2 and 4 of level 0 and 3 of level 1, joins
     * 0 and 1, lift 2, robots of widths 50 and 80, chargers at 0 and 2, a way told, a row worked.
     */
    static FloorGraph yard() {
        FloorGraph x = new FloorGraph();
        x.piece(0, 5, true);
        x.piece(0, 6, false);
        x.piece(0, 7, true);
        x.piece(1, 8, true);
        x.piece(0, 9, true);
        x.join(0, 1, 1, 0, 2);
        x.join(1, 1, 2, 0, 3);
        x.lift(2, 3, 4);
        x.turn(1, 1, true);
        x.width(2, 79);
        x.zone(2, 5, true);
        x.closed(4, true);
        x.robot(50);
        x.robot(80);
        x.charger(0);
        x.charger(2);
        x.way(0, 0, 3, 0);
        x.table(0, 1);
        return x;
    }

    /** Twenty two-way pieces of level 0 and of 5 seconds, and robot 0 of width 50. */
    static FloorGraph twoWayTwenty() {
        int[] lengths = new int[20];
        Arrays.fill(lengths, 5);
        return twoWay(lengths);
    }

    /** Twenty pieces of level 0 but for the last one, of level 1. */
    static FloorGraph fullOfPieces() {
        FloorGraph x = new FloorGraph();
        for (int i = 0; i < 20; i++) {
            x.piece(i / 19, 5 + i, true);
        }
        x.robot(50);
        x.charger(19);
        x.table(0, 0);
        return x;
    }

    /** Pieces 0 and 1 of level 0 and 2 of level 1: joins 0 to 38, and lift 39 from 1 to 2. */
    static FloorGraph fullOfJoins() {
        FloorGraph x = twoWay(5, 5);
        x.piece(1, 5, true);
        for (int i = 0; i < 39; i++) {
            x.join(0, 1, 1, 0, 50);
        }
        x.lift(1, 2, 3);
        x.charger(2);
        x.table(0, 0);
        return x;
    }

    /** A floor of one piece with robots of widths 1 to 6. */
    static FloorGraph fullOfRobots() {
        FloorGraph x = new FloorGraph();
        x.piece(0, 5, true);
        for (int width = 1; width <= 6; width++) {
            x.robot(width);
        }
        x.charger(0);
        x.table(0, 0);
        return x;
    }

    /** A line of ten pieces with chargers at 9, 8, .. 2, in this order. */
    static FloorGraph fullOfChargers() {
        FloorGraph x = line(10);
        for (int piece = 9; piece >= 2; piece--) {
            x.charger(piece);
        }
        x.table(0, 0);
        return x;
    }

    static String steps(FloorGraph x) {
        StringBuilder text = new StringBuilder();
        for (int i = 0; i < 50 && x.step(i) != -1; i++) {
            text.append(text.length() == 0 ? "" : " ").append(x.step(i));
        }
        return text.toString();
    }

    /**
     * What can be seen of a floor that has a robot and a charger. The floor is used up by it: what
     * no call only asks for is seen by what a change answers.
     */
    static String picture(FloorGraph x) {
        StringBuilder text = new StringBuilder("steps " + steps(x) + ", rows " + x.rows());
        x.table(0, 0);
        text.append(", after table() ").append(x.rows()).append(", counts");
        for (int what = 0; what <= 4; what++) {
            text.append(' ').append(x.count(what));
        }
        int seen = Math.min(5, x.count(0));
        for (int robot = 0; robot < Math.min(2, x.count(2)); robot++) {
            text.append(", ways of robot ").append(robot).append(':');
            for (int i = 0; i < seen * seen; i++) {
                text.append(' ').append(x.way(robot, i / seen, i % seen, 5));
                text.append(' ').append(x.way(robot, i / seen, i % seen, 6));
            }
        }
        return text.append(changesOf(x, seen)).toString();
    }

    private static String changesOf(FloorGraph x, int pieces) {
        StringBuilder text = new StringBuilder(", hours that are barred:");
        for (int piece = 0; piece < pieces; piece++) {
            text.append(' ').append(x.zone(piece, 5, true));
        }
        text.append(", closed ").append(x.closed(0, true)).append(", barred:");
        for (int join = 0; join < Math.min(3, x.count(1)); join++) {
            text.append(' ').append(x.turn(join, 0, true));
        }
        if (x.count(0) < 20) {
            text.append(", next piece ").append(x.piece(0, 1, true));
        }
        if (x.count(1) < 40) {
            text.append(", next join ").append(x.join(0, 0, 1, 0, 1));
        }
        if (x.count(2) < 6) {
            text.append(", next robot ").append(x.robot(1));
        }
        return text.toString();
    }
}
