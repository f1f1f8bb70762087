/** Promise 2, piece: a level 0 .. 9, a length 1 .. 1000, at most twenty. */
public final class Promise02PieceTest {
    public static void main(String[] args) {
        Check.runAll(Promise02PieceTest.class);
    }

    /** "A piece: its number", also of one that is as the one before it. */
    static void numbersGoUpByOne(Check check) {
        FloorGraph x = new FloorGraph();
        check.due("first", x.piece(3, 10, true), 0);
        check.due("second", x.piece(3, 10, true), 1);
        check.due("third", x.piece(4, 10, false), 2);
        check.due("count(0)", x.count(0), 3);
    }

    static void levelTooSmall(Check check) {
        check.wrongArgument("level -1", x -> x.piece(-1, 5, true));
        check.wrongArgument("least level", x -> x.piece(Floors.LOW, 5, true));
    }

    static void levelTooLarge(Check check) {
        check.wrongArgument("level 10", x -> x.piece(10, 5, true));
        check.wrongArgument("greatest level", x -> x.piece(Floors.HIGH, 5, true));
    }

    /** "a level 0 .. 9": each of them is one of its own. */
    static void everyLevel(Check check) {
        FloorGraph x = new FloorGraph();
        for (int level = 0; level <= 9; level++) {
            check.due("level " + level, x.piece(level, 5, true), level);
        }
        for (int level = 1; level <= 9; level++) {
            int above = level;
            check.argument("a join to level " + level, () -> x.join(0, 0, above, 0, 1));
            check.due("a lift to level " + level, x.lift(0, level, 1), level - 1);
        }
    }

    static void lengthTooSmall(Check check) {
        check.wrongArgument("length 0", x -> x.piece(0, 0, true));
        check.wrongArgument("length -1", x -> x.piece(0, -1, true));
        check.wrongArgument("least length", x -> x.piece(0, Floors.LOW, true));
    }

    static void lengthTooLarge(Check check) {
        check.wrongArgument("length 1001", x -> x.piece(0, 1001, true));
        check.wrongArgument("greatest length", x -> x.piece(0, Floors.HIGH, true));
    }

    /** "a length in seconds 1 .. 1000": the least and the greatest one are driven as told. */
    static void leastAndGreatestLength(Check check) {
        FloorGraph x = Floors.twoWay(5, 1, 1000, 5);
        x.join(0, 1, 1, 0, 0);
        x.join(1, 1, 3, 0, 0);
        check.due("over 1 second", x.way(0, 0, 3, 0), 1);
        x.closed(1, true);
        x.join(0, 1, 2, 0, 0);
        x.join(2, 1, 3, 0, 0);
        check.due("over 1000 seconds", x.way(0, 0, 3, 0), 1000);
    }

    /** "PIECES 0, 1, .. (at most 20)": all twenty are taken, and the last one is as good as any. */
    static void twentyAreTaken(Check check) {
        FloorGraph x = new FloorGraph();
        for (int i = 0; i < 20; i++) {
            check.due("piece " + i, x.piece(i % 10, 5, i % 2 == 0), i);
        }
        check.due("count(0)", x.count(0), 20);
        check.due("closed(19, true)", x.closed(19, true), 1);
    }

    /** "UnsupportedOperationException if there are twenty". */
    static void oneMoreThanTwenty(Check check) {
        check.refusedWhole("piece 20", UnsupportedOperationException.class,
                Floors::fullOfPieces, x -> x.piece(0, 5, true));
        FloorGraph x = Floors.fullOfPieces();
        check.unsupported("piece 20", () -> x.piece(0, 5, true));
        check.unsupported("piece 20 told again", () -> x.piece(9, 1000, false));
        check.argument("there is no piece 20", () -> x.closed(20, true));
    }

    /** "IllegalArgumentException; UnsupportedOperationException": in this order. */
    static void wrongThoughThereAreTwenty(Check check) {
        check.refusedWhole("level 10", IllegalArgumentException.class,
                Floors::fullOfPieces, x -> x.piece(10, 5, true));
        check.refusedWhole("length 0", IllegalArgumentException.class,
                Floors::fullOfPieces, x -> x.piece(0, 0, true));
    }

    /** "a width 1 .. 500 (100 at first)". */
    static void hundredWideAtFirst(Check check) {
        FloorGraph x = new FloorGraph();
        x.piece(0, 5, true);
        check.due("a robot of 101", x.robot(101), -1);
        check.due("a robot of 100", x.robot(100), 0);
    }

    /** "A ZONE bars a piece in some hours 0 .. 23 (in none at first)". */
    static void noZoneAtFirst(Check check) {
        FloorGraph x = Floors.twoWay(5, 5);
        x.join(0, 1, 1, 0, 3);
        for (int hour = 0; hour <= 23; hour++) {
            check.due("way in hour " + hour, x.way(0, 0, 1, hour), 3);
        }
        check.due("hours that are barred", x.zone(1, 0, false), 0);
    }

    /** "They may be CLOSED": a new one is not, though the one before it is. */
    static void openAtFirst(Check check) {
        FloorGraph x = Floors.twoWay(5);
        x.closed(0, true);
        x.piece(0, 5, true);
        x.join(0, 1, 1, 0, 3);
        check.due("into the new one", x.way(0, 0, 1, 0), 3);
        check.due("closed ones", x.closed(1, false), 1);
    }

    /** "ONE-WAY (driven from end 0 to end 1) or TWO-WAY". */
    static void oneWayAndTwoWay(Check check) {
        FloorGraph x = new FloorGraph();
        x.piece(0, 5, true);
        x.piece(0, 6, false);
        x.piece(0, 7, true);
        x.piece(0, 8, true);
        x.robot(50);
        x.join(0, 1, 1, 0, 1);
        x.join(1, 1, 3, 0, 1);
        x.join(0, 0, 2, 0, 1);
        x.join(2, 1, 3, 1, 1);
        check.due("by the one-way piece", x.way(0, 0, 3, 0), 8);
        check.due("back by the two-way piece", x.way(0, 3, 0, 0), 9);
    }
}
