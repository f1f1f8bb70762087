/** Promise 15, table: the seconds of robot 0 between chargers in hour 12, as all is now. */
public final class Promise15TableTest {
    public static void main(String[] args) {
        Check.runAll(Promise15TableTest.class);
    }

    private static final Class<ArrayIndexOutOfBoundsException> OUT =
            ArrayIndexOutOfBoundsException.class;

    static void firstTooSmall(Check check) {
        check.refusedWhole("i -1", OUT, Floors::yard, x -> x.table(-1, 0));
        check.refusedWhole("least i", OUT, Floors::yard, x -> x.table(Floors.LOW, 0));
    }

    static void firstTooLarge(Check check) {
        check.refusedWhole("i 2", OUT, Floors::yard, x -> x.table(2, 0));
        check.refusedWhole("i 8", OUT, Floors::yard, x -> x.table(8, 0));
        check.refusedWhole("greatest i", OUT, Floors::yard, x -> x.table(Floors.HIGH, 0));
    }

    static void secondTooSmall(Check check) {
        check.refusedWhole("j -1", OUT, Floors::yard, x -> x.table(0, -1));
        check.refusedWhole("least j", OUT, Floors::yard, x -> x.table(0, Floors.LOW));
    }

    static void secondTooLarge(Check check) {
        check.refusedWhole("j 2", OUT, Floors::yard, x -> x.table(0, 2));
        check.refusedWhole("j 8", OUT, Floors::yard, x -> x.table(0, 8));
        check.refusedWhole("greatest j", OUT, Floors::yard, x -> x.table(0, Floors.HIGH));
    }

    /** A charger is told by its number, not by its piece. */
    static void aPieceIsNoCharger(Check check) {
        FloorGraph x = Floors.line(4);
        x.charger(3);
        check.due("charger 0", x.table(0, 0), 0);
        check.index("piece 3 as i", () -> x.table(3, 0));
        check.index("piece 3 as j", () -> x.table(0, 3));
    }

    /** "there are no such chargers": there are none at all. */
    static void noChargers(Check check) {
        FloorGraph x = Floors.line(2);
        check.index("table(0, 0)", () -> x.table(0, 0));
        check.due("rows()", x.rows(), 0);
    }

    /** "there are no such chargers": there are eight. */
    static void eightChargers(Check check) {
        FloorGraph x = Floors.fullOfChargers();
        check.due("first to last", x.table(0, 7), 67);
        check.due("last to first", x.table(7, 0), 67);
        check.due("last to last", x.table(7, 7), 0);
        check.index("i 8", () -> x.table(8, 7));
        check.index("j 8", () -> x.table(7, 8));
    }

    /** "IllegalStateException: there is no robot". */
    static void noRobot(Check check) {
        FloorGraph x = new FloorGraph();
        x.piece(0, 5, true);
        x.charger(0);
        check.state("table(0, 0)", () -> x.table(0, 0));
        check.due("a robot that is none", x.robot(101), -1);
        check.state("table(0, 0) then", () -> x.table(0, 0));
        check.due("rows()", x.rows(), 0);
        x.robot(100);
        check.due("with a robot", x.table(0, 0), 0);
    }

    /** "(asked before)": no robot goes before no such chargers. */
    static void noRobotAndNoSuchCharger(Check check) {
        FloorGraph x = new FloorGraph();
        check.state("no chargers", () -> x.table(0, 0));
        check.state("both too small", () -> x.table(-1, -1));
        x.piece(0, 5, true);
        x.charger(0);
        check.state("i too large", () -> x.table(1, 0));
        check.state("j too small", () -> x.table(0, -1));
        x.robot(1);
        check.index("i too large, with a robot", () -> x.table(1, 0));
    }

    /** "0, 1, .. as they were put": not by their pieces' numbers. */
    static void inTheOrderTheyWerePut(Check check) {
        FloorGraph x = Floors.line(4);
        x.charger(3);
        x.charger(0);
        x.charger(1);
        check.due("from 3 to 0", x.table(0, 1), 23);
        check.due("from 3 to 1", x.table(0, 2), 12);
        check.due("from 0 to 1", x.table(1, 2), 1);
    }

    /** "-1 if there is no way": there, while there is one back. */
    static void noWay(Check check) {
        FloorGraph x = Floors.line(3);
        x.charger(0);
        x.charger(2);
        x.turn(0, 0, true);
        check.due("there", x.table(0, 1), -1);
        check.due("back", x.table(1, 0), 12);
        check.due("to itself", x.table(0, 0), 0);
    }

    /** A charger to itself: 0, though its piece be closed. */
    static void toItself(Check check) {
        FloorGraph x = Floors.line(2);
        x.charger(1);
        x.closed(1, true);
        check.due("table(0, 0)", x.table(0, 0), 0);
    }

    /** "in hour 12": not in the hours beside it. */
    static void inHourTwelve(Check check) {
        FloorGraph x = Floors.line(3);
        x.charger(0);
        x.charger(2);
        x.zone(1, 11, true);
        x.zone(1, 13, true);
        x.zone(1, 0, true);
        check.due("barred in 11, 13 and 0", x.table(0, 1), 12);
        x.zone(1, 12, true);
        check.due("barred in 12", x.table(0, 1), -1);
    }

    /** "of robot 0": not of another one. */
    static void ofRobotZero(Check check) {
        FloorGraph x = Floors.line(3);
        x.robot(10);
        x.robot(100);
        x.charger(0);
        x.charger(2);
        x.width(1, 50);
        check.due("wide enough for robot 0", x.table(0, 1), 12);
        x.width(1, 49);
        check.due("wide enough for robot 1 only", x.table(0, 1), -1);
    }

    /** "as all is now": after each kind of change. */
    static void asAllIsNow(Check check) {
        FloorGraph x = Floors.line(4);
        x.charger(0);
        x.charger(2);
        check.due("at first", x.table(0, 1), 12);
        x.closed(1, true);
        check.due("closed", x.table(0, 1), -1);
        x.closed(1, false);
        check.due("opened", x.table(0, 1), 12);
        x.turn(1, 0, true);
        check.due("barred", x.table(0, 1), -1);
        x.turn(1, 0, false);
        x.width(1, 1);
        check.due("narrow", x.table(0, 1), -1);
        x.width(1, 100);
        x.zone(1, 12, true);
        check.due("a zone", x.table(0, 1), -1);
        x.join(0, 0, 2, 0, 40);
        check.due("a join", x.table(0, 1), 40);
        x.zone(1, 12, false);
        check.due("no zone", x.table(0, 1), 12);
        x.charger(3);
        check.due("a charger that came", x.table(0, 2), 23);
    }

    /** "as all is now": a lift to a piece that came. */
    static void asAllIsNowOnTwoLevels(Check check) {
        FloorGraph x = Floors.line(2);
        x.charger(0);
        x.table(0, 0);
        x.piece(1, 5, true);
        x.charger(2);
        check.due("not joined", x.table(0, 1), -1);
        x.lift(0, 2, 9);
        check.due("by the lift", x.table(0, 1), 9);
        check.due("back", x.table(1, 0), 9);
    }
}
