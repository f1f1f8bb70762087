/** Promise 4, lift: between ends 1 of two pieces of different levels, seconds 0 .. 100. */
public final class Promise04LiftTest {
    public static void main(String[] args) {
        Check.runAll(Promise04LiftTest.class);
    }

    /** Two-way pieces 0 of level 0 and 1 of level 1, a one-way piece 2 of level 9, and a robot. */
    private static FloorGraph levels() {
        FloorGraph x = new FloorGraph();
        x.piece(0, 5, true);
        x.piece(1, 7, true);
        x.piece(9, 9, false);
        x.robot(50);
        return x;
    }

    /** "the join's number". */
    static void numbersGoUpByOne(Check check) {
        FloorGraph x = levels();
        check.due("first", x.lift(0, 1, 1), 0);
        check.due("second, the same", x.lift(0, 1, 1), 1);
        check.due("third", x.lift(2, 0, 1), 2);
        check.due("count(1)", x.count(1), 3);
    }

    static void noSuchFirstPiece(Check check) {
        check.wrongArgument("piece -1", x -> x.lift(-1, 0, 1));
        check.wrongArgument("piece 5", x -> x.lift(5, 0, 1));
        check.wrongArgument("piece 20", x -> x.lift(20, 0, 1));
        check.wrongArgument("least piece", x -> x.lift(Floors.LOW, 0, 1));
        check.wrongArgument("greatest piece", x -> x.lift(Floors.HIGH, 0, 1));
    }

    static void noSuchOtherPiece(Check check) {
        check.wrongArgument("other -1", x -> x.lift(0, -1, 1));
        check.wrongArgument("other 5", x -> x.lift(0, 5, 1));
        check.wrongArgument("other 20", x -> x.lift(0, 20, 1));
        check.wrongArgument("least other", x -> x.lift(0, Floors.LOW, 1));
        check.wrongArgument("greatest other", x -> x.lift(0, Floors.HIGH, 1));
    }

    /** "two pieces of different levels": not of one, and no piece has two. */
    static void oneLevel(Check check) {
        check.wrongArgument("two pieces of level 0", x -> x.lift(0, 2, 1));
        check.wrongArgument("the same piece", x -> x.lift(0, 0, 1));
        check.wrongArgument("the same piece of level 1", x -> x.lift(3, 3, 1));
    }

    /** "different levels": the next one, and the farthest one, upwards and downwards. */
    static void nextAndFarthestLevel(Check check) {
        FloorGraph x = levels();
        check.due("one up", x.lift(0, 1, 1), 0);
        check.due("one down", x.lift(1, 0, 1), 1);
        check.due("nine up", x.lift(0, 2, 1), 2);
        check.due("nine down", x.lift(2, 0, 1), 3);
    }

    static void secondsTooFew(Check check) {
        check.wrongArgument("seconds -1", x -> x.lift(0, 3, -1));
        check.wrongArgument("least seconds", x -> x.lift(0, 3, Floors.LOW));
    }

    static void secondsTooMany(Check check) {
        check.wrongArgument("seconds 101", x -> x.lift(0, 3, 101));
        check.wrongArgument("greatest seconds", x -> x.lift(0, 3, Floors.HIGH));
    }

    /** "with seconds 0 .. 100": the fewest and the most, there and back. */
    static void fewestAndMostSeconds(Check check) {
        FloorGraph x = levels();
        x.lift(0, 1, 100);
        check.due("100 there", x.way(0, 0, 1, 0), 100);
        check.due("100 back", x.way(0, 1, 0, 0), 100);
        x.lift(1, 0, 0);
        check.due("0 there", x.way(0, 0, 1, 0), 0);
        check.due("0 back", x.way(0, 1, 0, 0), 0);
    }

    /** "between ends 1": it leaves a one-way piece, but enters none. */
    static void endsOneOfAOneWayPiece(Check check) {
        FloorGraph x = levels();
        x.lift(0, 2, 4);
        check.due("into it", x.way(0, 0, 2, 0), -1);
        check.due("out of it", x.way(0, 2, 0, 0), 4);
    }

    /** "between ends 1": who has come by end 1 is not at end 1 any more. */
    static void endsOneOfATwoWayPiece(Check check) {
        FloorGraph x = levels();
        x.piece(0, 3, true);
        x.lift(0, 1, 4);
        x.join(3, 1, 0, 1, 2);
        check.due("not from end 1 to end 1", x.way(0, 3, 1, 0), -1);
        x.join(3, 0, 0, 0, 2);
        check.due("from end 0 to end 1", x.way(0, 3, 1, 0), 11);
    }

    /** "UnsupportedOperationException": at most forty joins, and lifts are joins. */
    static void oneMoreThanForty(Check check) {
        check.refusedWhole("lift 40", UnsupportedOperationException.class,
                Floors::fullOfJoins, x -> x.lift(0, 2, 0));
        FloorGraph y = levels();
        for (int i = 0; i < 40; i++) {
            check.due("lift " + i, y.lift(0, 1, 1), i);
        }
        check.unsupported("one more", () -> y.lift(0, 1, 1));
        check.due("count(1)", y.count(1), 40);
    }

    /** "IllegalArgumentException, UnsupportedOperationException": in this order. */
    static void wrongThoughThereAreForty(Check check) {
        Class<IllegalArgumentException> wrong = IllegalArgumentException.class;
        check.refusedWhole("piece 3", wrong, Floors::fullOfJoins, x -> x.lift(3, 0, 0));
        check.refusedWhole("other 3", wrong, Floors::fullOfJoins, x -> x.lift(0, 3, 0));
        check.refusedWhole("one level", wrong, Floors::fullOfJoins, x -> x.lift(0, 1, 0));
        check.refusedWhole("seconds 101", wrong, Floors::fullOfJoins, x -> x.lift(0, 2, 101));
    }

    /** "between ends 1 of two pieces": of just these, whatever their numbers are. */
    static void ofJustThesePieces(Check check) {
        for (int piece = 0; piece < 20; piece++) {
            FloorGraph x = new FloorGraph();
            int other = 19 - piece;
            for (int i = 0; i < 20; i++) {
                x.piece(i == other ? 9 : 0, 5, true);
            }
            x.robot(50);
            x.lift(piece, other, 4);
            check.due("from " + piece, x.way(0, piece, other, 0), 4);
            check.due("to " + piece, x.way(0, other, piece, 0), 4);
            int beside = (piece + 1) % 20 == other ? (piece + 2) % 20 : (piece + 1) % 20;
            x.join(beside, 0, piece, 0, 1);
            check.due("through " + piece, x.way(0, beside, other, 0), 10);
            check.due("back through " + piece, x.way(0, other, beside, 0), 10);
        }
    }
}
