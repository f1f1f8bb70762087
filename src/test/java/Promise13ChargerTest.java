/** Promise 13, charger: one at a piece, eight at most. */
public final class Promise13ChargerTest {
    public static void main(String[] args) {
        Check.runAll(Promise13ChargerTest.class);
    }

    static void pieceTooSmall(Check check) {
        check.wrongArgument("piece -1", x -> x.charger(-1));
        check.wrongArgument("least piece", x -> x.charger(Floors.LOW));
    }

    static void pieceTooLarge(Check check) {
        check.wrongArgument("piece 5", x -> x.charger(5));
        check.wrongArgument("piece 20", x -> x.charger(20));
        check.wrongArgument("greatest piece", x -> x.charger(Floors.HIGH));
        check.refusedWhole("piece 20 of twenty", IllegalArgumentException.class,
                Floors::fullOfPieces, x -> x.charger(20));
    }

    /** "how many there are": not the charger's number. */
    static void howManyThereAre(Check check) {
        FloorGraph x = Floors.line(3);
        check.due("first", x.charger(2), 1);
        check.due("second", x.charger(0), 2);
        check.due("count(3)", x.count(3), 2);
    }

    /** "IllegalStateException: there is one": at this piece. */
    static void thereIsOne(Check check) {
        check.refusedWhole("the first one's piece", IllegalStateException.class,
                Floors::yard, x -> x.charger(0));
        check.refusedWhole("the last one's piece", IllegalStateException.class,
                Floors::yard, x -> x.charger(2));
        FloorGraph x = Floors.yard();
        check.due("another piece", x.charger(1), 3);
    }

    /** A charger comes to any piece: the first, the last, a closed and a barred one. */
    static void atAnyPiece(Check check) {
        FloorGraph x = Floors.fullOfPieces();
        x.closed(0, true);
        check.due("a closed one, the first of all", x.charger(0), 2);
        x.zone(18, 12, true);
        check.due("a barred one", x.charger(18), 3);
        check.state("the last of all has one", () -> x.charger(19));
    }

    /** "UnsupportedOperationException: there are eight": all eight are taken. */
    static void eightAreTaken(Check check) {
        FloorGraph x = Floors.line(10);
        for (int i = 0; i < 8; i++) {
            check.due("charger " + i, x.charger(9 - i), i + 1);
        }
        check.due("count(3)", x.count(3), 8);
        check.due("the last one is one", x.nearest(0, 0, 0), 2);
        check.due("and in the table", x.table(7, 0), 67);
    }

    /** "UnsupportedOperationException: there are eight". */
    static void oneMoreThanEight(Check check) {
        check.refusedWhole("charger 8", UnsupportedOperationException.class,
                Floors::fullOfChargers, x -> x.charger(0));
        FloorGraph x = Floors.fullOfChargers();
        check.unsupported("charger 8", () -> x.charger(1));
        check.due("none came", x.nearest(0, 1, 0), 2);
        check.index("nor a row of it", () -> x.table(8, 0));
    }

    /** "IllegalStateException: there is one; UnsupportedOperationException": in this order. */
    static void thereIsOneOfEight(Check check) {
        check.refusedWhole("the first one's piece", IllegalStateException.class,
                Floors::fullOfChargers, x -> x.charger(9));
        check.refusedWhole("the last one's piece", IllegalStateException.class,
                Floors::fullOfChargers, x -> x.charger(2));
    }

    /** "IllegalArgumentException; .. UnsupportedOperationException": in this order. */
    static void wrongThoughThereAreEight(Check check) {
        check.refusedWhole("piece 10", IllegalArgumentException.class,
                Floors::fullOfChargers, x -> x.charger(10));
        check.refusedWhole("piece -1", IllegalArgumentException.class,
                Floors::fullOfChargers, x -> x.charger(-1));
    }
}
