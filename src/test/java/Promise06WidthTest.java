/** Promise 6, width: of a piece, 1 .. 500. */
public final class Promise06WidthTest {
    public static void main(String[] args) {
        Check.runAll(Promise06WidthTest.class);
    }

    static void pieceTooSmall(Check check) {
        check.wrongArgument("piece -1", x -> x.width(-1, 60));
        check.wrongArgument("least piece", x -> x.width(Floors.LOW, 60));
    }

    static void pieceTooLarge(Check check) {
        check.wrongArgument("piece 5", x -> x.width(5, 60));
        check.wrongArgument("piece 20", x -> x.width(20, 60));
        check.wrongArgument("greatest piece", x -> x.width(Floors.HIGH, 60));
        check.refusedWhole("piece 20 of twenty", IllegalArgumentException.class,
                Floors::fullOfPieces, x -> x.width(20, 60));
    }

    static void widthTooSmall(Check check) {
        check.wrongArgument("width 0", x -> x.width(1, 0));
        check.wrongArgument("width -1", x -> x.width(1, -1));
        check.wrongArgument("least width", x -> x.width(1, Floors.LOW));
    }

    static void widthTooLarge(Check check) {
        check.wrongArgument("width 501", x -> x.width(2, 501));
        check.wrongArgument("greatest width", x -> x.width(2, Floors.HIGH));
    }

    /** "a width 1 .. 500": the least one bears a robot of 1 and none of 2. */
    static void leastWidth(Check check) {
        FloorGraph x = Floors.twoWay(5, 5);
        x.join(0, 1, 1, 0, 3);
        x.robot(1);
        x.robot(2);
        x.width(1, 1);
        check.due("a robot of 1", x.way(1, 0, 1, 0), 3);
        check.due("a robot of 2", x.way(2, 0, 1, 0), -1);
    }

    /** "a width 1 .. 500": the greatest one bears the widest robot, one less does not. */
    static void greatestWidth(Check check) {
        FloorGraph x = Floors.twoWay(5, 5);
        x.join(0, 1, 1, 0, 3);
        x.width(1, 500);
        check.due("the widest robot", x.robot(500), 1);
        check.due("its way", x.way(1, 0, 1, 0), 3);
        x.width(1, 499);
        check.due("its way at 499", x.way(1, 0, 1, 0), -1);
    }

    /** "it is no narrower than the robot": as wide as it is enough. */
    static void asWideAsTheRobot(Check check) {
        FloorGraph x = Floors.twoWay(5, 5);
        x.join(0, 1, 1, 0, 3);
        x.width(1, 50);
        check.due("as wide", x.way(0, 0, 1, 0), 3);
        x.width(1, 49);
        check.due("narrower by one", x.way(0, 0, 1, 0), -1);
        x.width(1, 51);
        check.due("wider by one", x.way(0, 0, 1, 0), 3);
    }

    /** A piece's width: no other piece's. */
    static void ofThisPieceAlone(Check check) {
        FloorGraph x = Floors.line(4);
        x.width(2, 1);
        check.due("before it", x.way(0, 0, 1, 0), 1);
        check.due("to it", x.way(0, 1, 2, 0), -1);
        check.due("behind it", x.way(0, 2, 3, 0), 1);
    }

    /** A robot that came in time stays, though all pieces become narrower than it. */
    static void narrowerThanAllRobots(Check check) {
        FloorGraph x = Floors.twoWay(5, 5);
        x.join(0, 1, 1, 0, 3);
        x.width(0, 1);
        x.width(1, 1);
        check.due("count(2)", x.count(2), 1);
        check.due("to itself", x.way(0, 0, 0, 0), 0);
        check.due("to the other", x.way(0, 0, 1, 0), -1);
        check.due("another one like it", x.robot(50), -1);
    }
}
