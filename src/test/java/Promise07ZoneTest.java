/** Promise 7, zone: hours 0 .. 23 in which a piece is barred. */
public final class Promise07ZoneTest {
    public static void main(String[] args) {
        Check.runAll(Promise07ZoneTest.class);
    }

    static void pieceTooSmall(Check check) {
        check.wrongArgument("piece -1", x -> x.zone(-1, 5, true));
        check.wrongArgument("least piece", x -> x.zone(Floors.LOW, 5, true));
    }

    static void pieceTooLarge(Check check) {
        check.wrongArgument("piece 5", x -> x.zone(5, 5, true));
        check.wrongArgument("piece 20", x -> x.zone(20, 5, true));
        check.wrongArgument("greatest piece", x -> x.zone(Floors.HIGH, 5, true));
        check.refusedWhole("piece 20 of twenty", IllegalArgumentException.class,
                Floors::fullOfPieces, x -> x.zone(20, 5, true));
    }

    static void hourTooSmall(Check check) {
        check.wrongArgument("hour -1", x -> x.zone(0, -1, true));
        check.wrongArgument("hour -19, a day before 5", x -> x.zone(0, -19, true));
        check.wrongArgument("least hour", x -> x.zone(0, Floors.LOW, true));
    }

    static void hourTooLarge(Check check) {
        check.wrongArgument("hour 24", x -> x.zone(0, 24, true));
        check.wrongArgument("hour 29, a day behind 5", x -> x.zone(0, 29, true));
        check.wrongArgument("hour 37, 32 behind 5", x -> x.zone(0, 37, true));
        check.wrongArgument("greatest hour", x -> x.zone(0, Floors.HIGH, true));
    }

    /** "or not": wrong arguments are refused then too. */
    static void wrongThoughNothingIsBarred(Check check) {
        check.wrongArgument("piece 5", x -> x.zone(5, 5, false));
        check.wrongArgument("piece -1", x -> x.zone(-1, 5, false));
        check.wrongArgument("hour 24", x -> x.zone(2, 24, false));
        check.wrongArgument("hour -1", x -> x.zone(2, -1, false));
        check.wrongArgument("hour 37, 32 behind 5", x -> x.zone(2, 37, false));
    }

    /** "hours 0 .. 23": the first one and the last one, and not those round midnight from them. */
    static void firstAndLastHour(Check check) {
        FloorGraph x = Floors.twoWay(5, 5);
        x.join(0, 1, 1, 0, 3);
        check.due("hour 23", x.zone(1, 23, true), 1);
        check.due("way in hour 23", x.way(0, 0, 1, 23), -1);
        check.due("way in hour 22", x.way(0, 0, 1, 22), 3);
        check.due("way in hour 0", x.way(0, 0, 1, 0), 3);
        check.due("hour 0 too", x.zone(1, 0, true), 2);
        check.due("way in hour 0 then", x.way(0, 0, 1, 0), -1);
        check.due("way in hour 1", x.way(0, 0, 1, 1), 3);
    }

    /** "in how many hours it does then": up to all twenty-four, and down to none. */
    static void everyHour(Check check) {
        FloorGraph x = Floors.twoWay(5, 5);
        x.join(0, 1, 1, 0, 3);
        for (int hour = 0; hour < 24; hour++) {
            check.due("way in hour " + hour, x.way(0, 0, 1, hour), 3);
            check.due("barred in hour " + hour, x.zone(1, hour, true), hour + 1);
            check.due("no way in hour " + hour, x.way(0, 0, 1, hour), -1);
        }
        for (int hour = 0; hour < 24; hour++) {
            check.due("freed in hour " + hour, x.zone(1, hour, false), 23 - hour);
            check.due("way again in hour " + hour, x.way(0, 0, 1, hour), 3);
        }
    }

    /** What is told as it was leaves it as it was. */
    static void asItWas(Check check) {
        FloorGraph x = Floors.twoWay(5);
        check.due("not barred at first", x.zone(0, 7, false), 0);
        check.due("barred", x.zone(0, 7, true), 1);
        check.due("barred again", x.zone(0, 7, true), 1);
        check.due("free", x.zone(0, 7, false), 0);
        check.due("free again", x.zone(0, 7, false), 0);
    }

    /** A zone bars a piece: no other piece. */
    static void ofThisPieceAlone(Check check) {
        FloorGraph x = Floors.line(3);
        x.zone(1, 7, true);
        x.zone(1, 8, true);
        check.due("another piece's hours", x.zone(2, 9, true), 1);
        check.due("its own hours", x.zone(1, 9, true), 3);
        check.due("to it", x.way(0, 0, 1, 7), -1);
        check.due("to another one", x.way(0, 1, 2, 7), 1);
    }
}
