/** Promise 12, same: whether the seconds are the same there and back. */
public final class Promise12SameTest {
    public static void main(String[] args) {
        Check.runAll(Promise12SameTest.class);
    }

    static void robotTooSmall(Check check) {
        check.wrongArgument("robot -1", x -> x.same(-1, 0, 1, 0));
        check.wrongArgument("least robot", x -> x.same(Floors.LOW, 0, 1, 0));
    }

    static void robotTooLarge(Check check) {
        check.wrongArgument("robot 2", x -> x.same(2, 0, 1, 0));
        check.wrongArgument("robot 6", x -> x.same(6, 0, 1, 0));
        check.wrongArgument("greatest robot", x -> x.same(Floors.HIGH, 0, 1, 0));
    }

    static void pieceTooSmall(Check check) {
        check.wrongArgument("a -1", x -> x.same(0, -1, 1, 0));
        check.wrongArgument("b -1", x -> x.same(0, 0, -1, 0));
        check.wrongArgument("least a", x -> x.same(0, Floors.LOW, 1, 0));
        check.wrongArgument("least b", x -> x.same(0, 0, Floors.LOW, 0));
    }

    static void pieceTooLarge(Check check) {
        check.wrongArgument("a 5", x -> x.same(0, 5, 1, 0));
        check.wrongArgument("b 5", x -> x.same(0, 0, 5, 0));
        check.wrongArgument("a 20", x -> x.same(0, 20, 1, 0));
        check.wrongArgument("b 20", x -> x.same(0, 0, 20, 0));
        check.wrongArgument("greatest a", x -> x.same(0, Floors.HIGH, 1, 0));
        check.wrongArgument("greatest b", x -> x.same(0, 0, Floors.HIGH, 0));
    }

    static void hourTooSmall(Check check) {
        check.wrongArgument("hour -1", x -> x.same(0, 0, 1, -1));
        check.wrongArgument("least hour", x -> x.same(0, 0, 1, Floors.LOW));
    }

    static void hourTooLarge(Check check) {
        check.wrongArgument("hour 24", x -> x.same(0, 0, 1, 24));
        check.wrongArgument("hour 32", x -> x.same(0, 0, 1, 32));
        check.wrongArgument("greatest hour", x -> x.same(0, 0, 1, Floors.HIGH));
    }

    /** A piece and itself: only if there is the piece, the robot and the hour. */
    static void wrongThoughItself(Check check) {
        check.wrongArgument("piece 5", x -> x.same(0, 5, 5, 0));
        check.wrongArgument("robot 2", x -> x.same(2, 0, 0, 0));
        check.wrongArgument("hour 24", x -> x.same(0, 0, 0, 24));
    }

    /** "(-1 likewise)": none there and none back are the same. */
    static void noneThereAndNoneBack(Check check) {
        FloorGraph x = Floors.twoWay(5, 5);
        check.due("not joined", x.same(0, 0, 1, 0), true);
        x.join(0, 1, 1, 0, 3);
        x.turn(0, 0, true);
        x.turn(0, 1, true);
        check.due("barred in both directions", x.same(0, 0, 1, 0), true);
    }

    /** "(-1 likewise)": none there is not the same as one back, were it of 0 seconds. */
    static void noneThereOrNoneBack(Check check) {
        FloorGraph x = Floors.twoWay(5, 5);
        x.join(0, 1, 1, 0, 0);
        x.turn(0, 0, true);
        check.due("none there", x.same(0, 0, 1, 0), false);
        check.due("none back", x.same(0, 1, 0, 0), false);
    }

    /** A piece and itself: 0 there, 0 back. */
    static void aPieceAndItself(Check check) {
        FloorGraph x = Floors.twoWay(5);
        check.due("open", x.same(0, 0, 0, 0), true);
        x.closed(0, true);
        check.due("closed", x.same(0, 0, 0, 23), true);
    }

    /** "the same there and back": by one second they are not. */
    static void oneSecondMore(Check check) {
        FloorGraph x = Floors.twoWay(5, 5);
        x.join(0, 1, 1, 0, 3);
        x.join(0, 0, 1, 1, 4);
        check.due("3 there, 3 back", x.same(0, 0, 1, 0), true);
        x.turn(0, 0, true);
        check.due("4 there, 3 back", x.same(0, 0, 1, 0), false);
        check.due("3 there, 4 back", x.same(0, 1, 0, 0), false);
        x.turn(0, 1, true);
        check.due("4 there, 4 back", x.same(0, 0, 1, 0), true);
    }

    /** "the seconds are the same": by other pieces too. */
    static void byOtherPieces(Check check) {
        FloorGraph x = new FloorGraph();
        x.piece(0, 5, true);
        x.piece(0, 6, false);
        x.piece(0, 6, false);
        x.piece(0, 5, true);
        x.robot(50);
        x.join(0, 1, 1, 0, 1);
        x.join(1, 1, 3, 0, 1);
        x.join(3, 1, 2, 0, 1);
        check.due("no way back", x.same(0, 0, 3, 0), false);
        x.join(2, 1, 0, 0, 1);
        check.due("by 1 there, by 2 back", x.same(0, 0, 3, 0), true);
    }

    /** In an hour: a piece that is barred is left, and not come back to. */
    static void inItsHour(Check check) {
        FloorGraph x = Floors.line(2);
        x.zone(0, 7, true);
        check.due("hour 7", x.same(0, 0, 1, 7), false);
        check.due("hour 6", x.same(0, 0, 1, 6), true);
        check.due("hour 8", x.same(0, 0, 1, 8), true);
    }
}
