/** Promise 9, robot: a width 1 .. 500, at most six, none wider than all pieces. */
public final class Promise09RobotTest {
    public static void main(String[] args) {
        Check.runAll(Promise09RobotTest.class);
    }

    static void widthTooSmall(Check check) {
        check.wrongArgument("width 0", x -> x.robot(0));
        check.wrongArgument("width -1", x -> x.robot(-1));
        check.wrongArgument("least width", x -> x.robot(Floors.LOW));
    }

    static void widthTooLarge(Check check) {
        check.wrongArgument("width 501", x -> x.robot(501));
        check.wrongArgument("greatest width", x -> x.robot(Floors.HIGH));
    }

    /** "have a width 1 .. 500": the least and the greatest one. */
    static void leastAndGreatestWidth(Check check) {
        FloorGraph x = new FloorGraph();
        x.piece(0, 5, true);
        x.width(0, 500);
        check.due("robot(1)", x.robot(1), 0);
        check.due("robot(500)", x.robot(500), 1);
        check.due("count(2)", x.count(2), 2);
    }

    /** "-1, and there is none, if it is wider than all pieces". */
    static void widerThanAllPieces(Check check) {
        FloorGraph x = new FloorGraph();
        x.piece(0, 5, true);
        x.piece(0, 5, true);
        check.due("robot(101)", x.robot(101), -1);
        check.due("count(2)", x.count(2), 0);
        check.argument("its way", () -> x.way(0, 0, 1, 0));
        check.due("the next one's number", x.robot(100), 0);
    }

    /** "wider than all pieces": not if it is just as wide as the widest one, whichever that is. */
    static void asWideAsTheWidestPiece(Check check) {
        for (int widest = 0; widest < 3; widest++) {
            FloorGraph x = new FloorGraph();
            for (int piece = 0; piece < 3; piece++) {
                x.piece(piece, 5, false);
                x.width(piece, piece == widest ? 70 : 60);
            }
            check.due("robot(71)", x.robot(71), -1);
            check.due("robot(70)", x.robot(70), 0);
            check.due("robot(61)", x.robot(61), 1);
            check.due("robot(60)", x.robot(60), 2);
        }
    }

    /** "all pieces": a closed one and one that a zone bars are pieces too. */
    static void closedPiecesAreWideToo(Check check) {
        FloorGraph x = new FloorGraph();
        x.piece(0, 5, true);
        x.width(0, 300);
        x.closed(0, true);
        for (int hour = 0; hour < 24; hour++) {
            x.zone(0, hour, true);
        }
        check.due("robot(300)", x.robot(300), 0);
        check.due("robot(301)", x.robot(301), -1);
    }

    /** "all pieces": of none at all each robot is wider. */
    static void noPieces(Check check) {
        FloorGraph x = new FloorGraph();
        check.due("robot(1)", x.robot(1), -1);
        check.due("robot(500)", x.robot(500), -1);
        check.due("count(2)", x.count(2), 0);
    }

    /** "both ahead of -1": IllegalArgumentException though it be wider than all pieces. */
    static void wrongAheadOfTooWide(Check check) {
        FloorGraph x = new FloorGraph();
        check.argument("robot(501) without pieces", () -> x.robot(501));
        check.argument("robot(0) without pieces", () -> x.robot(0));
    }

    /** "ROBOTS 0, 1, .. (at most 6)": all six are taken, and the last one drives. */
    static void sixAreTaken(Check check) {
        FloorGraph x = new FloorGraph();
        x.piece(0, 5, true);
        x.piece(0, 5, true);
        x.join(0, 1, 1, 0, 3);
        for (int i = 0; i < 6; i++) {
            check.due("robot " + i, x.robot(10 + i), i);
        }
        x.width(1, 14);
        check.due("count(2)", x.count(2), 6);
        check.due("way of robot 4, of width 14", x.way(4, 0, 1, 0), 3);
        check.due("way of robot 5, of width 15", x.way(5, 0, 1, 0), -1);
        check.argument("way of robot 6", () -> x.way(6, 0, 1, 0));
    }

    /** "UnsupportedOperationException if there are six". */
    static void oneMoreThanSix(Check check) {
        check.refusedWhole("robot 6", UnsupportedOperationException.class,
                Floors::fullOfRobots, x -> x.robot(1));
        FloorGraph x = Floors.fullOfRobots();
        check.unsupported("robot 6", () -> x.robot(1));
        check.argument("there is no robot 6", () -> x.way(6, 0, 0, 0));
    }

    /** "both ahead of -1": UnsupportedOperationException though it be wider than all pieces. */
    static void sixAheadOfTooWide(Check check) {
        check.refusedWhole("robot(101)", UnsupportedOperationException.class,
                Floors::fullOfRobots, x -> x.robot(101));
        check.refusedWhole("robot(500)", UnsupportedOperationException.class,
                Floors::fullOfRobots, x -> x.robot(500));
    }

    /** "IllegalArgumentException; UnsupportedOperationException": in this order. */
    static void wrongThoughThereAreSix(Check check) {
        check.refusedWhole("robot(501)", IllegalArgumentException.class,
                Floors::fullOfRobots, x -> x.robot(501));
        check.refusedWhole("robot(0)", IllegalArgumentException.class,
                Floors::fullOfRobots, x -> x.robot(0));
    }

    /** One that answered -1 is none of the six. */
    static void tooWideOnesAreNotCounted(Check check) {
        FloorGraph x = new FloorGraph();
        x.piece(0, 5, true);
        for (int i = 0; i < 6; i++) {
            check.due("too wide", x.robot(400), -1);
            check.due("robot " + i, x.robot(100), i);
        }
        check.unsupported("robot 6", () -> x.robot(100));
    }

    /** "wider than all pieces": than all twenty, or not than the last one. */
    static void twentyPieces(Check check) {
        FloorGraph x = Floors.twoWayTwenty();
        check.due("wider than all", x.robot(101), -1);
        x.width(19, 101);
        check.due("as wide as the last one", x.robot(101), 1);
    }
}
