/** Promise 8, closed: a piece is closed, or not, and how many are. */
public final class Promise08ClosedTest {
    public static void main(String[] args) {
        Check.runAll(Promise08ClosedTest.class);
    }

    static void pieceTooSmall(Check check) {
        check.wrongArgument("piece -1", x -> x.closed(-1, true));
        check.wrongArgument("least piece", x -> x.closed(Floors.LOW, true));
    }

    static void pieceTooLarge(Check check) {
        check.wrongArgument("piece 5", x -> x.closed(5, true));
        check.wrongArgument("piece 20", x -> x.closed(20, true));
        check.wrongArgument("greatest piece", x -> x.closed(Floors.HIGH, true));
        check.refusedWhole("piece 20 of twenty", IllegalArgumentException.class,
                Floors::fullOfPieces, x -> x.closed(20, true));
    }

    /** "or not": wrong arguments are refused then too. */
    static void wrongThoughOpened(Check check) {
        check.wrongArgument("piece -1", x -> x.closed(-1, false));
        check.wrongArgument("piece 5", x -> x.closed(5, false));
    }

    /** "how many are": from none to all twenty, and back to none. */
    static void fromNoneToAll(Check check) {
        FloorGraph x = Floors.fullOfPieces();
        check.due("none", x.closed(19, false), 0);
        for (int piece = 0; piece < 20; piece++) {
            check.due("closed " + piece, x.closed(piece, true), piece + 1);
        }
        for (int piece = 0; piece < 20; piece++) {
            check.due("opened " + piece, x.closed(piece, false), 19 - piece);
        }
    }

    /** What is told as it was leaves it as it was. */
    static void asItWas(Check check) {
        FloorGraph x = Floors.twoWay(5, 5);
        check.due("open", x.closed(0, false), 0);
        check.due("closed", x.closed(0, true), 1);
        check.due("closed again", x.closed(0, true), 1);
        check.due("another one open", x.closed(1, false), 1);
        check.due("opened", x.closed(0, false), 0);
        check.due("opened again", x.closed(0, false), 0);
    }

    /** "if the piece is not closed": in no hour, by no robot, until it is opened. */
    static void inEveryHour(Check check) {
        FloorGraph x = Floors.line(3);
        x.robot(1);
        x.closed(1, true);
        for (int hour = 0; hour < 24; hour++) {
            check.due("to it in hour " + hour, x.way(0, 0, 1, hour), -1);
            check.due("through it in hour " + hour, x.way(1, 0, 2, hour), -1);
        }
        x.closed(1, false);
        check.due("opened", x.way(0, 0, 2, 0), 12);
    }
}
