/** Promise 1, a new object: nothing is there, and each call meets that. */
public final class Promise01NewObjectTest {
    public static void main(String[] args) {
        Check.runAll(Promise01NewObjectTest.class);
    }

    /** "Nothing there": all that is counted is 0. */
    static void nothingIsCounted(Check check) {
        FloorGraph x = new FloorGraph();
        for (int what = 0; what <= 4; what++) {
            check.due("count(" + what + ")", x.count(what), 0);
        }
    }

    /** "Nothing there": no way was told. */
    static void noWayWasTold(Check check) {
        FloorGraph x = new FloorGraph();
        check.due("step(0)", x.step(0), -1);
        check.due("step(1)", x.step(1), -1);
        check.due("step(-1)", x.step(-1), -1);
    }

    /** "Nothing there": no row was worked. */
    static void noRowWasWorked(Check check) {
        check.due("rows()", new FloorGraph().rows(), 0);
    }

    /** "Nothing there": not even piece 0. */
    static void noPieceIsThere(Check check) {
        FloorGraph x = new FloorGraph();
        check.argument("join", () -> x.join(0, 0, 1, 0, 1));
        check.argument("lift", () -> x.lift(0, 1, 1));
        check.argument("width", () -> x.width(0, 100));
        check.argument("zone", () -> x.zone(0, 0, false));
        check.argument("closed", () -> x.closed(0, false));
        check.argument("charger", () -> x.charger(0));
    }

    /** "Nothing there": not even join 0. */
    static void noJoinIsThere(Check check) {
        FloorGraph x = new FloorGraph();
        check.argument("turn", () -> x.turn(0, 0, false));
    }

    /** "Nothing there": not even robot 0, though there be a piece and a charger. */
    static void noRobotIsThere(Check check) {
        FloorGraph x = new FloorGraph();
        x.piece(0, 1, true);
        x.charger(0);
        check.argument("way", () -> x.way(0, 0, 0, 0));
        check.argument("same", () -> x.same(0, 0, 0, 0));
        check.argument("nearest", () -> x.nearest(0, 0, 0));
        check.argument("plain", () -> x.plain(0, 0, 0, 0, 0));
        check.state("table", () -> x.table(0, 0));
    }

    /** "Nothing there": the narrowest robot is wider than all pieces, of which there are none. */
    static void noPieceForTheNarrowestRobot(Check check) {
        FloorGraph x = new FloorGraph();
        check.due("robot(1)", x.robot(1), -1);
        check.due("count(2)", x.count(2), 0);
    }

    /** "PIECES 0, 1, ..", "JOINS 0, 1, ..", "ROBOTS 0, 1, ..": the first ones. */
    static void theFirstNumberIs0(Check check) {
        FloorGraph x = new FloorGraph();
        check.due("the first piece", x.piece(0, 1, true), 0);
        x.piece(0, 1, true);
        check.due("the first join", x.join(0, 0, 1, 0, 0), 0);
        check.due("the first robot", x.robot(1), 0);
        check.due("how many chargers", x.charger(1), 1);
    }

    /** "Nothing there": also while another object has much. */
    static void nothingOfAnotherObject(Check check) {
        FloorGraph y = Floors.yard();
        FloorGraph x = new FloorGraph();
        y.closed(0, true);
        for (int what = 0; what <= 4; what++) {
            check.due("count(" + what + ")", x.count(what), 0);
        }
        check.due("rows()", x.rows(), 0);
        check.due("step(0)", x.step(0), -1);
        x.piece(0, 1, true);
        check.due("closed pieces", x.closed(0, false), 0);
    }

    /** "at most 512 calls after it has been made": the 512th one is answered as the others are. */
    static void theLastCallThatIsPromised(Check check) {
        FloorGraph x = new FloorGraph();
        x.piece(0, 1, true);
        x.charger(0);
        x.robot(1);
        for (int call = 4; call < 512; call += 2) {
            x.closed(0, call % 4 == 0);
            x.table(0, 0);
        }
        check.due("rows() as the 512th call", x.rows(), 254);
    }
}
