/** Promise 17, plain: ways that come to no piece twice, with at most so many pieces between. */
public final class Promise17PlainTest {
    public static void main(String[] args) {
        Check.runAll(Promise17PlainTest.class);
    }

    static void robotTooSmall(Check check) {
        check.wrongArgument("robot -1", x -> x.plain(-1, 0, 1, 0, 0));
        check.wrongArgument("least robot", x -> x.plain(Floors.LOW, 0, 1, 0, 0));
    }

    static void robotTooLarge(Check check) {
        check.wrongArgument("robot 2", x -> x.plain(2, 0, 1, 0, 0));
        check.wrongArgument("robot 6", x -> x.plain(6, 0, 1, 0, 0));
        check.wrongArgument("greatest robot", x -> x.plain(Floors.HIGH, 0, 1, 0, 0));
    }

    static void pieceTooSmall(Check check) {
        check.wrongArgument("from -1", x -> x.plain(0, -1, 1, 0, 0));
        check.wrongArgument("to -1", x -> x.plain(0, 0, -1, 0, 0));
        check.wrongArgument("least from", x -> x.plain(0, Floors.LOW, 1, 0, 0));
        check.wrongArgument("least to", x -> x.plain(0, 0, Floors.LOW, 0, 0));
    }

    static void pieceTooLarge(Check check) {
        check.wrongArgument("from 5", x -> x.plain(0, 5, 1, 0, 0));
        check.wrongArgument("to 5", x -> x.plain(0, 0, 5, 0, 0));
        check.wrongArgument("from 20", x -> x.plain(0, 20, 1, 0, 0));
        check.wrongArgument("to 20", x -> x.plain(0, 0, 20, 0, 0));
        check.wrongArgument("greatest from", x -> x.plain(0, Floors.HIGH, 1, 0, 0));
        check.wrongArgument("greatest to", x -> x.plain(0, 0, Floors.HIGH, 0, 0));
    }

    static void hourTooSmall(Check check) {
        check.wrongArgument("hour -1", x -> x.plain(0, 0, 1, -1, 0));
        check.wrongArgument("least hour", x -> x.plain(0, 0, 1, Floors.LOW, 0));
    }

    static void hourTooLarge(Check check) {
        check.wrongArgument("hour 24", x -> x.plain(0, 0, 1, 24, 0));
        check.wrongArgument("hour 32", x -> x.plain(0, 0, 1, 32, 0));
        check.wrongArgument("greatest hour", x -> x.plain(0, 0, 1, Floors.HIGH, 0));
    }

    static void mostTooSmall(Check check) {
        check.wrongArgument("most -1", x -> x.plain(0, 0, 1, 0, -1));
        check.wrongArgument("least most", x -> x.plain(0, 0, 1, 0, Floors.LOW));
    }

    static void mostTooLarge(Check check) {
        check.wrongArgument("most 6", x -> x.plain(0, 0, 1, 0, 6));
        check.wrongArgument("greatest most", x -> x.plain(0, 0, 1, 0, Floors.HIGH));
    }

    /** "from a piece to itself: 0": only if all the arguments are right. */
    static void wrongThoughToItself(Check check) {
        check.wrongArgument("robot 2", x -> x.plain(2, 0, 0, 0, 0));
        check.wrongArgument("piece 5", x -> x.plain(0, 5, 5, 0, 0));
        check.wrongArgument("hour 24", x -> x.plain(0, 0, 0, 24, 0));
        check.wrongArgument("most 6", x -> x.plain(0, 0, 0, 0, 6));
        check.wrongArgument("most -1", x -> x.plain(0, 0, 0, 0, -1));
    }

    /** "from a piece to itself: 0": though a ring leads back to it. */
    static void toItself(Check check) {
        FloorGraph x = Floors.line(3);
        x.join(2, 1, 0, 0, 1);
        check.due("most 0", x.plain(0, 0, 0, 0, 0), 0);
        check.due("most 5", x.plain(0, 0, 0, 0, 5), 0);
    }

    /** No way at all: 0, not -1. */
    static void noWay(Check check) {
        FloorGraph x = Floors.twoWay(5, 5);
        check.due("not joined", x.plain(0, 0, 1, 0, 5), 0);
        x.join(0, 1, 1, 0, 1);
        x.closed(1, true);
        check.due("to a closed one", x.plain(0, 0, 1, 0, 5), 0);
    }

    /** "with at most so many (0 .. 5) pieces between": just so many, and one more. */
    static void justSoManyBetween(Check check) {
        FloorGraph x = Floors.line(8);
        for (int most = 0; most <= 5; most++) {
            check.due(most + " between", x.plain(0, 0, most + 1, 0, most), 1);
            check.due("one more than " + most, x.plain(0, 0, most + 2, 0, most), 0);
            check.due(most + " between, back", x.plain(0, 7, 6 - most, 0, most), 1);
        }
    }

    /** "at most": ways with fewer pieces between count too. */
    static void fewerBetweenCountToo(Check check) {
        FloorGraph x = Floors.twoWay(5, 5, 5);
        x.join(0, 1, 1, 0, 1);
        x.join(1, 1, 2, 0, 1);
        x.join(0, 0, 2, 1, 100);
        check.due("none between", x.plain(0, 0, 2, 0, 0), 1);
        check.due("at most one", x.plain(0, 0, 2, 0, 1), 2);
        check.due("at most five", x.plain(0, 0, 2, 0, 5), 2);
    }

    /** "Ways differ if their joins do": by equal joins between equal ends. */
    static void waysDifferByTheirJoins(Check check) {
        FloorGraph x = Floors.twoWay(5, 5, 5);
        x.join(0, 1, 1, 0, 1);
        x.join(0, 1, 1, 0, 1);
        x.join(1, 0, 0, 1, 1);
        check.due("three joins", x.plain(0, 0, 1, 0, 0), 3);
        x.join(1, 1, 2, 0, 1);
        x.join(2, 0, 1, 1, 1);
        check.due("three by two", x.plain(0, 0, 2, 0, 1), 6);
        check.due("back", x.plain(0, 2, 0, 0, 1), 6);
    }

    /** As many ways as forty joins over five pieces between can make. */
    static void mostWaysOfAll(Check check) {
        FloorGraph x = Floors.twoWay(1, 1, 1, 1, 1, 1, 1);
        int[] joins = {7, 7, 7, 7, 6, 6};
        for (int i = 0; i < joins.length; i++) {
            for (int k = 0; k < joins[i]; k++) {
                x.join(i, 1, i + 1, 0, k);
            }
        }
        check.due("ways", x.plain(0, 0, 6, 0, 5), 7 * 7 * 7 * 7 * 6 * 6);
        check.due("ways with four between", x.plain(0, 0, 6, 0, 4), 0);
    }

    /** "come to no piece twice": the only way drives a piece there and back. */
    static void notOnePieceTwice(Check check) {
        FloorGraph x = Floors.twoWay(1, 10, 20, 5);
        x.join(0, 1, 1, 0, 1);
        x.join(1, 1, 2, 0, 2);
        x.join(2, 1, 1, 1, 3);
        x.join(1, 0, 3, 0, 4);
        check.due("there is a way", x.way(0, 0, 3, 0), 50);
        check.due("no plain one", x.plain(0, 0, 3, 0, 5), 0);
    }

    /** "come to no piece twice": not to the first one either. */
    static void notBackToTheFirstPiece(Check check) {
        FloorGraph x = Floors.twoWay(5, 5, 5);
        x.join(0, 1, 1, 0, 1);
        x.join(1, 1, 0, 1, 1);
        x.join(0, 0, 2, 0, 1);
        check.due("ways", x.plain(0, 0, 2, 0, 5), 1);
    }

    /** "between two pieces": a way ends at the last one and does not come to it again. */
    static void notOnFromTheLastPiece(Check check) {
        FloorGraph x = Floors.line(3);
        x.join(2, 1, 0, 0, 1);
        check.due("round the ring either way", x.plain(0, 0, 1, 0, 5), 2);
    }

    /** "between": a dead end is left again, for another way may come through it. */
    static void onePieceOfSeveralWays(Check check) {
        FloorGraph x = Floors.twoWay(5, 5, 5, 5);
        x.join(0, 1, 1, 0, 1);
        x.join(1, 1, 2, 0, 1);
        x.join(2, 1, 3, 0, 1);
        x.join(0, 1, 2, 0, 1);
        x.join(1, 1, 3, 0, 1);
        check.due("by 1 and 2, by 2, by 1", x.plain(0, 0, 3, 0, 5), 3);
    }

    /** A way goes through a piece from end to end, and by both ends out of the first one. */
    static void endsOfThePieces(Check check) {
        FloorGraph x = new FloorGraph();
        x.piece(0, 5, false);
        x.piece(0, 5, true);
        x.piece(0, 5, false);
        x.robot(50);
        x.join(0, 1, 1, 0, 0);
        x.join(0, 0, 1, 0, 0);
        x.join(1, 1, 2, 0, 0);
        x.join(1, 1, 2, 1, 0);
        x.join(1, 0, 2, 0, 0);
        check.due("one-way ones left by 1, entered by 0", x.plain(0, 0, 2, 0, 1), 1);
        check.due("by both ends of the first one", x.plain(0, 1, 2, 0, 1), 2);
    }

    /** "of a robot": a piece that it may not enter is none of its way, but for the first one. */
    static void piecesThatMayNotBeEntered(Check check) {
        FloorGraph x = Floors.line(3);
        x.robot(51);
        x.width(1, 50);
        check.due("wide enough", x.plain(0, 0, 2, 0, 5), 1);
        check.due("too narrow", x.plain(1, 0, 2, 0, 5), 0);
        check.due("out of the narrow one", x.plain(1, 1, 2, 0, 5), 1);
        x.closed(2, true);
        check.due("to a closed one", x.plain(0, 0, 2, 0, 5), 0);
        check.due("out of a closed one", x.plain(0, 2, 0, 0, 5), 1);
    }

    /** "in an hour": the first one, the last one, and one that is barred. */
    static void inItsHour(Check check) {
        FloorGraph x = Floors.line(3);
        x.zone(1, 4, true);
        check.due("hour 0", x.plain(0, 0, 2, 0, 1), 1);
        check.due("hour 4", x.plain(0, 0, 2, 4, 1), 0);
        check.due("hour 5", x.plain(0, 0, 2, 5, 1), 1);
        check.due("hour 23", x.plain(0, 0, 2, 23, 1), 1);
    }

    /** A join that is barred in a direction is none of the ways there. */
    static void barredJoins(Check check) {
        FloorGraph x = Floors.twoWay(5, 5);
        x.join(0, 1, 1, 0, 1);
        x.join(0, 1, 1, 0, 1);
        x.turn(0, 0, true);
        check.due("there", x.plain(0, 0, 1, 0, 0), 1);
        check.due("back", x.plain(0, 1, 0, 0, 0), 2);
    }

    /** Twenty pieces: from the last one, to it and through it. */
    static void twentyPieces(Check check) {
        FloorGraph x = Floors.line(20);
        x.join(19, 1, 0, 0, 1);
        check.due("from the last one", x.plain(0, 19, 0, 0, 0), 1);
        check.due("to the last one", x.plain(0, 0, 19, 0, 0), 1);
        check.due("through the last one", x.plain(0, 18, 0, 0, 1), 1);
        check.due("back through the last one", x.plain(0, 0, 18, 0, 5), 1);
    }
}
