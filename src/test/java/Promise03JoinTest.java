/** Promise 3, join: two ends of two pieces of one level, seconds 0 .. 100, at most forty. */
public final class Promise03JoinTest {
    public static void main(String[] args) {
        Check.runAll(Promise03JoinTest.class);
    }

    /** "the join's number": lifts are joins and count among them. */
    static void numbersGoUpByOne(Check check) {
        FloorGraph x = Floors.twoWay(5, 5);
        x.piece(1, 5, true);
        check.due("first", x.join(0, 0, 1, 0, 1), 0);
        check.due("a lift", x.lift(1, 2, 1), 1);
        check.due("third", x.join(0, 1, 1, 1, 1), 2);
        check.due("count(1)", x.count(1), 3);
    }

    /** "no such pieces": the first one. */
    static void noSuchFirstPiece(Check check) {
        check.wrongArgument("piece -1", x -> x.join(-1, 0, 0, 0, 1));
        check.wrongArgument("piece 5", x -> x.join(5, 0, 0, 0, 1));
        check.wrongArgument("piece 20", x -> x.join(20, 0, 0, 0, 1));
        check.wrongArgument("least piece", x -> x.join(Floors.LOW, 0, 0, 0, 1));
        check.wrongArgument("greatest piece", x -> x.join(Floors.HIGH, 0, 0, 0, 1));
    }

    /** "no such pieces": the other one. */
    static void noSuchOtherPiece(Check check) {
        check.wrongArgument("other -1", x -> x.join(0, 0, -1, 0, 1));
        check.wrongArgument("other 5", x -> x.join(0, 0, 5, 0, 1));
        check.wrongArgument("other 20", x -> x.join(0, 0, 20, 0, 1));
        check.wrongArgument("least other", x -> x.join(0, 0, Floors.LOW, 0, 1));
        check.wrongArgument("greatest other", x -> x.join(0, 0, Floors.HIGH, 0, 1));
    }

    /** "no such pieces or ends": an end of the first piece. */
    static void noSuchFirstEnd(Check check) {
        check.wrongArgument("end -1", x -> x.join(0, -1, 1, 0, 1));
        check.wrongArgument("end 2", x -> x.join(0, 2, 1, 0, 1));
        check.wrongArgument("least end", x -> x.join(0, Floors.LOW, 1, 0, 1));
        check.wrongArgument("greatest end", x -> x.join(0, Floors.HIGH, 1, 0, 1));
    }

    /** "no such pieces or ends": an end of the other piece. */
    static void noSuchOtherEnd(Check check) {
        check.wrongArgument("other end -1", x -> x.join(0, 0, 1, -1, 1));
        check.wrongArgument("other end 2", x -> x.join(0, 0, 1, 2, 1));
        check.wrongArgument("least other end", x -> x.join(0, 0, 1, Floors.LOW, 1));
        check.wrongArgument("greatest other end", x -> x.join(0, 0, 1, Floors.HIGH, 1));
    }

    /** "two ENDS (0 and 1)": each of the one piece with each of the other. */
    static void everyPairOfEnds(Check check) {
        for (int ends = 0; ends < 4; ends++) {
            int end = ends / 2;
            int otherEnd = ends % 2;
            FloorGraph x = Floors.twoWay(5, 6, 7, 8);
            x.join(2, 0, 0, 1 - end, 1);
            x.join(0, end, 1, otherEnd, 2);
            x.join(1, 1 - otherEnd, 3, 0, 3);
            check.due("through ends " + end + " and " + otherEnd, x.way(0, 2, 3, 0), 17);
            check.due("and back", x.way(0, 3, 2, 0), 17);
        }
    }

    /** "the same piece": by two ends, or by one. */
    static void theSamePiece(Check check) {
        check.wrongArgument("ends 0 and 1", x -> x.join(1, 0, 1, 1, 1));
        check.wrongArgument("ends 1 and 0", x -> x.join(1, 1, 1, 0, 1));
        check.wrongArgument("end 0 twice", x -> x.join(1, 0, 1, 0, 1));
        check.wrongArgument("end 1 twice", x -> x.join(1, 1, 1, 1, 1));
    }

    /** "pieces of different levels": upwards and downwards. */
    static void differentLevels(Check check) {
        check.wrongArgument("one level up", x -> x.join(0, 0, 3, 0, 1));
        check.wrongArgument("one level down", x -> x.join(3, 0, 0, 0, 1));
        check.wrongArgument("by ends 1, as a lift", x -> x.join(0, 1, 3, 1, 1));
    }

    static void secondsTooFew(Check check) {
        check.wrongArgument("seconds -1", x -> x.join(0, 0, 1, 0, -1));
        check.wrongArgument("least seconds", x -> x.join(0, 0, 1, 0, Floors.LOW));
    }

    static void secondsTooMany(Check check) {
        check.wrongArgument("seconds 101", x -> x.join(0, 0, 1, 0, 101));
        check.wrongArgument("greatest seconds", x -> x.join(0, 0, 1, 0, Floors.HIGH));
    }

    /** "turning seconds 0 .. 100": the fewest and the most, there and back. */
    static void fewestAndMostSeconds(Check check) {
        FloorGraph x = Floors.twoWay(5, 5, 5);
        x.join(0, 1, 1, 0, 100);
        x.join(0, 0, 2, 0, 0);
        check.due("100 there", x.way(0, 0, 1, 0), 100);
        check.due("100 back", x.way(0, 1, 0, 0), 100);
        check.due("0 there", x.way(0, 0, 2, 0), 0);
        check.due("0 back", x.way(0, 2, 0, 0), 0);
    }

    /** "JOINS 0, 1, .. (at most 40)": all forty are taken, also at one end of one piece. */
    static void fortyAreTaken(Check check) {
        FloorGraph x = Floors.twoWay(5, 5);
        for (int i = 0; i < 40; i++) {
            check.due("join " + i, x.join(0, 1, 1, 0, 50), i);
        }
        check.due("count(1)", x.count(1), 40);
        check.due("ways by them", x.plain(0, 0, 1, 0, 0), 40);
        check.due("ways back by them", x.plain(0, 1, 0, 0, 0), 40);
        check.due("the last one can be barred", x.turn(39, 1, true), 1);
        check.due("ways back then", x.plain(0, 1, 0, 0, 0), 39);
    }

    /** "UnsupportedOperationException if there are forty joins", a lift among them. */
    static void oneMoreThanForty(Check check) {
        check.refusedWhole("join 40", UnsupportedOperationException.class,
                Floors::fullOfJoins, x -> x.join(0, 1, 1, 0, 0));
        FloorGraph x = Floors.fullOfJoins();
        check.unsupported("join 40", () -> x.join(0, 0, 1, 1, 0));
        check.argument("there is no join 40", () -> x.turn(40, 0, true));
        check.due("way by the others", x.way(0, 0, 1, 0), 50);
    }

    /** "IllegalArgumentException: ..; UnsupportedOperationException": in this order. */
    static void wrongThoughThereAreForty(Check check) {
        Class<IllegalArgumentException> wrong = IllegalArgumentException.class;
        check.refusedWhole("piece 3", wrong, Floors::fullOfJoins, x -> x.join(3, 0, 1, 0, 0));
        check.refusedWhole("other 3", wrong, Floors::fullOfJoins, x -> x.join(0, 0, 3, 0, 0));
        check.refusedWhole("end 2", wrong, Floors::fullOfJoins, x -> x.join(0, 2, 1, 0, 0));
        check.refusedWhole("other end 2", wrong, Floors::fullOfJoins, x -> x.join(0, 0, 1, 2, 0));
        check.refusedWhole("same piece", wrong, Floors::fullOfJoins, x -> x.join(0, 0, 0, 1, 0));
        check.refusedWhole("two levels", wrong, Floors::fullOfJoins, x -> x.join(0, 0, 2, 0, 0));
        check.refusedWhole("seconds 101", wrong, Floors::fullOfJoins, x -> x.join(0, 0, 1, 0, 101));
    }

    /** Two ends that are joined already are joined once more: nothing forbids it. */
    static void theSameEndsTwice(Check check) {
        FloorGraph x = Floors.twoWay(5, 5);
        check.due("once", x.join(0, 1, 1, 0, 9), 0);
        check.due("twice", x.join(0, 1, 1, 0, 4), 1);
        check.due("told from the other piece", x.join(1, 0, 0, 1, 6), 2);
        check.due("the fewest seconds", x.way(0, 0, 1, 0), 4);
        check.due("three ways", x.plain(0, 0, 1, 0, 0), 3);
    }

    /** "A join may be BARRED": a new one is not, though the one before it is. */
    static void notBarredAtFirst(Check check) {
        FloorGraph x = Floors.twoWay(5, 5);
        x.join(0, 1, 1, 0, 3);
        x.turn(0, 0, true);
        x.turn(0, 1, true);
        check.due("the new one", x.join(0, 1, 1, 0, 8), 1);
        check.due("there", x.way(0, 0, 1, 0), 8);
        check.due("back", x.way(0, 1, 0, 0), 8);
        check.due("barred in none", x.turn(1, 0, false), 0);
    }

    /** The last of twenty pieces is joined by both its ends as any other one. */
    static void bothEndsOfTheLastPiece(Check check) {
        FloorGraph x = Floors.twoWayTwenty();
        check.due("end 0 of piece 19", x.join(17, 1, 19, 0, 2), 0);
        check.due("end 1 of piece 19", x.join(19, 1, 18, 1, 3), 1);
        check.due("through it", x.way(0, 17, 18, 0), 10);
        check.due("back through it", x.way(0, 18, 17, 0), 10);
        check.due("from it", x.way(0, 19, 17, 0), 2);
    }
}
