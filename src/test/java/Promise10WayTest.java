/** Promise 10, way: the seconds between two pieces, 0 to the piece itself, -1 if there is none. */
public final class Promise10WayTest {
    public static void main(String[] args) {
        Check.runAll(Promise10WayTest.class);
    }

    static void robotTooSmall(Check check) {
        check.wrongArgument("robot -1", x -> x.way(-1, 0, 1, 0));
        check.wrongArgument("least robot", x -> x.way(Floors.LOW, 0, 1, 0));
    }

    static void robotTooLarge(Check check) {
        check.wrongArgument("robot 2", x -> x.way(2, 0, 1, 0));
        check.wrongArgument("robot 6", x -> x.way(6, 0, 1, 0));
        check.wrongArgument("greatest robot", x -> x.way(Floors.HIGH, 0, 1, 0));
    }

    static void fromTooSmall(Check check) {
        check.wrongArgument("from -1", x -> x.way(0, -1, 1, 0));
        check.wrongArgument("least from", x -> x.way(0, Floors.LOW, 1, 0));
    }

    static void fromTooLarge(Check check) {
        check.wrongArgument("from 5", x -> x.way(0, 5, 1, 0));
        check.wrongArgument("from 20", x -> x.way(0, 20, 1, 0));
        check.wrongArgument("greatest from", x -> x.way(0, Floors.HIGH, 1, 0));
    }

    static void toTooSmall(Check check) {
        check.wrongArgument("to -1", x -> x.way(0, 0, -1, 0));
        check.wrongArgument("least to", x -> x.way(0, 0, Floors.LOW, 0));
    }

    static void toTooLarge(Check check) {
        check.wrongArgument("to 5", x -> x.way(0, 0, 5, 0));
        check.wrongArgument("to 20", x -> x.way(0, 0, 20, 0));
        check.wrongArgument("greatest to", x -> x.way(0, 0, Floors.HIGH, 0));
    }

    static void hourTooSmall(Check check) {
        check.wrongArgument("hour -1", x -> x.way(0, 0, 1, -1));
        check.wrongArgument("least hour", x -> x.way(0, 0, 1, Floors.LOW));
    }

    static void hourTooLarge(Check check) {
        check.wrongArgument("hour 24", x -> x.way(0, 0, 1, 24));
        check.wrongArgument("hour 32", x -> x.way(0, 0, 1, 32));
        check.wrongArgument("greatest hour", x -> x.way(0, 0, 1, Floors.HIGH));
    }

    /** "0 from a piece to itself": only if there is the piece, the robot and the hour. */
    static void wrongThoughToItself(Check check) {
        check.wrongArgument("piece 5", x -> x.way(0, 5, 5, 0));
        check.wrongArgument("piece -1", x -> x.way(0, -1, -1, 0));
        check.wrongArgument("robot 2", x -> x.way(2, 0, 0, 0));
        check.wrongArgument("hour 24", x -> x.way(0, 0, 0, 24));
        check.wrongArgument("hour -1", x -> x.way(0, 0, 0, -1));
    }

    /** "0 from a piece to itself": whatever holds for this piece. */
    static void toItself(Check check) {
        FloorGraph x = Floors.line(3);
        check.due("the first one", x.way(0, 0, 0, 0), 0);
        check.due("the last one", x.way(0, 2, 2, 23), 0);
        x.closed(1, true);
        check.due("a closed one", x.way(0, 1, 1, 0), 0);
        x.zone(2, 5, true);
        check.due("a barred one", x.way(0, 2, 2, 5), 0);
        x.width(0, 49);
        check.due("a narrow one", x.way(0, 0, 0, 0), 0);
        x.piece(0, 5, false);
        check.due("a one-way one without joins", x.way(0, 3, 3, 0), 0);
    }

    /** "-1 if there is none": no joins, or none that goes on. */
    static void none(Check check) {
        FloorGraph x = Floors.twoWay(5, 5, 5);
        check.due("without joins", x.way(0, 0, 1, 0), -1);
        x.join(0, 1, 1, 0, 3);
        check.due("to one without joins", x.way(0, 0, 2, 0), -1);
        check.due("from one without joins", x.way(0, 2, 0, 0), -1);
    }

    /** "the turning seconds 0": 0 seconds to another piece are a way, and none are -1. */
    static void noSecondsToAnother(Check check) {
        FloorGraph x = Floors.twoWay(5, 5, 5);
        x.join(0, 1, 1, 0, 0);
        check.due("to the next one", x.way(0, 0, 1, 0), 0);
        check.due("to one that is not joined", x.way(0, 0, 2, 0), -1);
    }

    /** "hours 0 .. 23": the first one and the last one. */
    static void firstAndLastHour(Check check) {
        FloorGraph x = Floors.line(3);
        check.due("hour 0", x.way(0, 0, 2, 0), 12);
        check.due("hour 23", x.way(0, 0, 2, 23), 12);
    }

    /** "DRIVING, all in one hour": a way of more seconds than an hour has stays in its hour. */
    static void longerThanAnHour(Check check) {
        FloorGraph x = Floors.twoWay(1000, 1000, 1000, 1000, 1000, 1000);
        for (int i = 0; i < 5; i++) {
            x.join(i, 1, i + 1, 0, 100);
        }
        x.zone(5, 8, true);
        check.due("4500 seconds in hour 7", x.way(0, 0, 5, 7), 4500);
        check.due("none in hour 8", x.way(0, 0, 5, 8), -1);
    }

    /** Twenty pieces in a line, each as long and each turn as slow as can be. */
    static void longestLine(Check check) {
        FloorGraph x = new FloorGraph();
        for (int i = 0; i < 20; i++) {
            x.piece(0, 1000, true);
        }
        for (int i = 0; i < 19; i++) {
            x.join(i, 1, i + 1, 0, 100);
        }
        x.robot(50);
        check.due("there", x.way(0, 0, 19, 0), 18 * 1000 + 19 * 100);
        check.due("back", x.way(0, 19, 0, 0), 18 * 1000 + 19 * 100);
    }

    /** "MAY ENTER .. if the piece is not closed". */
    static void notIntoAClosedPiece(Check check) {
        FloorGraph x = Floors.line(3);
        x.closed(1, true);
        check.due("to it", x.way(0, 0, 1, 0), -1);
        check.due("through it", x.way(0, 0, 2, 0), -1);
        check.due("to it by end 1", x.way(0, 2, 1, 0), -1);
    }

    /** "no zone bars it in this hour". */
    static void notIntoABarredPiece(Check check) {
        FloorGraph x = Floors.line(3);
        x.zone(1, 6, true);
        check.due("to it", x.way(0, 0, 1, 6), -1);
        check.due("through it", x.way(0, 0, 2, 6), -1);
        check.due("the hour before", x.way(0, 0, 2, 5), 12);
        check.due("the hour behind", x.way(0, 0, 2, 7), 12);
    }

    /** "it is no narrower than the robot". */
    static void notIntoANarrowerPiece(Check check) {
        FloorGraph x = Floors.line(3);
        x.width(1, 49);
        check.due("to it", x.way(0, 0, 1, 0), -1);
        check.due("through it", x.way(0, 0, 2, 0), -1);
        x.width(1, 50);
        check.due("through one as wide", x.way(0, 0, 2, 0), 12);
    }

    /** "the end is 0 or the piece is two-way". */
    static void notIntoAOneWayPieceByEnd1(Check check) {
        FloorGraph x = Floors.twoWay(5);
        x.piece(0, 6, false);
        x.join(0, 1, 1, 1, 3);
        check.due("by end 1", x.way(0, 0, 1, 0), -1);
        x.join(0, 1, 1, 0, 4);
        check.due("by end 0", x.way(0, 0, 1, 0), 4);
        x.piece(0, 7, true);
        x.join(0, 1, 2, 1, 5);
        check.due("by end 1 of a two-way one", x.way(0, 0, 2, 0), 5);
    }

    /** "those ends by which it may leave it: end 1, and end 0 of a two-way one". */
    static void notOutOfAOneWayPieceByEnd0(Check check) {
        FloorGraph x = new FloorGraph();
        x.piece(0, 5, false);
        x.piece(0, 6, true);
        x.robot(50);
        x.join(0, 0, 1, 0, 3);
        check.due("by end 0", x.way(0, 0, 1, 0), -1);
        x.join(0, 1, 1, 1, 4);
        check.due("by end 1", x.way(0, 0, 1, 0), 4);
        check.due("by end 0 of a two-way one", x.way(0, 1, 0, 0), 3);
    }

    /** "whatever else holds for this piece": closed, barred and too narrow, it is left. */
    static void outOfAPieceThatMayNotBeEntered(Check check) {
        FloorGraph x = Floors.line(3);
        x.closed(1, true);
        check.due("a closed one by end 0", x.way(0, 1, 0, 0), 1);
        check.due("a closed one by end 1", x.way(0, 1, 2, 0), 1);
        x.closed(1, false);
        x.zone(1, 6, true);
        check.due("a barred one by end 0", x.way(0, 1, 0, 6), 1);
        check.due("a barred one by end 1", x.way(0, 1, 2, 6), 1);
        x.width(1, 1);
        check.due("a narrow one by end 0", x.way(0, 1, 0, 0), 1);
        check.due("a narrow one by end 1", x.way(0, 1, 2, 0), 1);
    }

    /** "not barred in that direction": along the way too. */
    static void notByABarredJoin(Check check) {
        FloorGraph x = Floors.line(3);
        x.turn(1, 0, true);
        check.due("there", x.way(0, 0, 2, 0), -1);
        check.due("back", x.way(0, 2, 0, 0), 12);
    }

    /** "it is there after the turning seconds": neither the first nor the last piece is driven. */
    static void firstAndLastPieceAreNotDriven(Check check) {
        FloorGraph x = Floors.twoWay(1000, 7, 1000);
        x.join(0, 1, 1, 0, 3);
        x.join(1, 1, 2, 0, 4);
        check.due("to the next one", x.way(0, 0, 1, 0), 3);
        check.due("over one", x.way(0, 0, 2, 0), 14);
    }

    /** "if it drives on it is at that piece's other end": it does not turn at the end it came to. */
    static void notOnFromTheEndItCameTo(Check check) {
        FloorGraph x = Floors.twoWay(5, 6, 7);
        x.join(0, 1, 1, 0, 1);
        x.join(1, 0, 2, 0, 2);
        check.due("from end 0 to end 0", x.way(0, 0, 2, 0), -1);
        x.join(1, 1, 2, 1, 3);
        check.due("from end 0 to end 1", x.way(0, 0, 2, 0), 10);
    }

    /** The least seconds may take a piece twice, there and back. */
    static void twiceThroughOnePiece(Check check) {
        FloorGraph x = Floors.twoWay(1, 10, 20, 5);
        x.join(0, 1, 1, 0, 1);
        x.join(1, 1, 2, 0, 2);
        x.join(2, 1, 1, 1, 3);
        x.join(1, 0, 3, 0, 4);
        check.due("through 1, round 2, through 1", x.way(0, 0, 3, 0), 50);
        x.turn(1, 0, true);
        check.due("round 2 the other way", x.way(0, 0, 3, 0), 50);
        x.turn(2, 1, true);
        check.due("not round 2 at all", x.way(0, 0, 3, 0), -1);
    }

    /** "the least second": more pieces with fewer seconds go before fewer pieces. */
    static void leastSecondsNotFewestPieces(Check check) {
        FloorGraph x = Floors.twoWay(5, 1, 1, 5);
        x.join(0, 1, 3, 0, 6);
        x.join(0, 1, 1, 0, 1);
        x.join(1, 1, 2, 0, 1);
        x.join(2, 1, 3, 0, 1);
        check.due("5 seconds over two pieces", x.way(0, 0, 3, 0), 5);
        check.due("5 seconds back", x.way(0, 3, 0, 0), 5);
    }

    /** Twenty pieces in a ring and forty joins, which are as many as there can be. */
    static void onAFullFloor(Check check) {
        FloorGraph x = Floors.twoWayTwenty();
        for (int i = 0; i < 20; i++) {
            x.join(i, 1, (i + 1) % 20, 0, 2);
            x.join((i + 1) % 20, 0, i, 1, 1);
        }
        check.due("half round", x.way(0, 0, 10, 0), 10 + 9 * 5);
        check.due("from the last one on", x.way(0, 19, 0, 0), 1);
        check.due("to the last one", x.way(0, 0, 19, 0), 1);
        check.due("through the last one", x.way(0, 18, 0, 0), 7);
        for (int join = 0; join < 40; join++) {
            x.turn(join, 1 - join % 2, true);
        }
        check.due("upwards only: once round to the last one", x.way(0, 0, 19, 0), 19 + 18 * 5);
        check.due("and once round to the one before it", x.way(0, 19, 18, 0), 19 + 18 * 5);
    }
}
