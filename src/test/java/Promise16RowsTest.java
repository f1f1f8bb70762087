/** Promise 16, rows: how many rows of the table had to be worked out anew. */
public final class Promise16RowsTest {
    public static void main(String[] args) {
        Check.runAll(Promise16RowsTest.class);
    }

    /** How many rows are worked out anew if row 0 is asked for. */
    private static int anew(FloorGraph x) {
        int before = x.rows();
        x.table(0, 0);
        return x.rows() - before;
    }

    private static void changes(Check check, String change, Check.Use made) {
        FloorGraph x = Floors.yard();
        check.due("before " + change, anew(x), 0);
        made.on(x);
        check.due("rows() just after " + change, x.rows(), 1);
        check.due("after " + change, anew(x), 1);
        check.due("once only after " + change, anew(x), 0);
    }

    private static void changesNothing(Check check, String call, Check.Make make, Check.Use made) {
        FloorGraph x = make.floor();
        check.due("before " + call, anew(x), 0);
        try {
            made.on(x);
            check.due(call, "answered", "refused");
        } catch (RuntimeException e) {
            check.due("after " + call, anew(x), 0);
        }
    }

    /** "since the beginning": none without a table() that is answered. */
    static void noneAtTheBeginning(Check check) {
        FloorGraph x = Floors.line(3);
        x.charger(0);
        check.due("rows()", x.rows(), 0);
        check.due("rows() again", x.rows(), 0);
    }

    /** "a row is worked when it is asked for the first time": one row, not all. */
    static void oneRowAtATime(Check check) {
        FloorGraph x = Floors.fullOfChargers();
        check.due("the first one", x.rows(), 1);
        for (int i = 1; i < 8; i++) {
            x.table(i, 0);
            check.due("row " + i, x.rows(), i + 1);
        }
    }

    /** "a row": i is the row, whatever j is. */
    static void theRowIsKeptForEveryColumn(Check check) {
        FloorGraph x = Floors.fullOfChargers();
        for (int j = 0; j < 8; j++) {
            x.table(0, j);
        }
        check.due("rows()", x.rows(), 1);
        x.table(1, 0);
        check.due("the same two, there and back", x.rows(), 2);
    }

    /** "when it is asked for the first time": to itself too. */
    static void toItself(Check check) {
        FloorGraph x = Floors.line(1);
        x.charger(0);
        x.table(0, 0);
        check.due("rows()", x.rows(), 1);
    }

    /** "or the first time since something was changed": each row for itself. */
    static void everyRowAfterAChange(Check check) {
        FloorGraph x = Floors.line(3);
        x.charger(0);
        x.charger(2);
        x.table(0, 1);
        x.table(1, 0);
        x.closed(1, true);
        check.due("a change works no row", x.rows(), 2);
        x.table(1, 0);
        x.table(1, 1);
        check.due("row 1 anew", x.rows(), 3);
        x.table(0, 1);
        check.due("row 0 anew", x.rows(), 4);
        x.table(0, 1);
        x.table(1, 0);
        check.due("both kept", x.rows(), 4);
    }

    /** Many changes before the next question: one row. */
    static void manyChangesOneRow(Check check) {
        FloorGraph x = Floors.yard();
        for (int hour = 0; hour < 24; hour++) {
            x.zone(0, hour, true);
        }
        check.due("rows worked", anew(x), 1);
    }

    /** A change and back again: the row is worked, though all is as it was. */
    static void changedAndBackAgain(Check check) {
        changes(check, "closed and opened", x -> {
            x.closed(1, true);
            x.closed(1, false);
        });
    }

    /** "pieces, joins, turns, widths, zones, closings, robots, chargers that came". */
    static void everyKindOfChange(Check check) {
        changes(check, "piece", x -> x.piece(5, 5, false));
        changes(check, "join", x -> x.join(0, 0, 1, 0, 9));
        changes(check, "lift", x -> x.lift(0, 3, 9));
        changes(check, "turn", x -> x.turn(0, 0, true));
        changes(check, "width", x -> x.width(4, 400));
        changes(check, "zone", x -> x.zone(4, 3, true));
        changes(check, "closed", x -> x.closed(3, true));
        changes(check, "robot", x -> x.robot(10));
        changes(check, "charger", x -> x.charger(4));
    }

    /** "also if something is told as it was". */
    static void toldAsItWas(Check check) {
        changes(check, "turn, barred", x -> x.turn(1, 1, true));
        changes(check, "turn, not barred", x -> x.turn(1, 0, false));
        changes(check, "width", x -> x.width(2, 79));
        changes(check, "zone, barred", x -> x.zone(2, 5, true));
        changes(check, "zone, not barred", x -> x.zone(2, 6, false));
        changes(check, "closed", x -> x.closed(4, true));
        changes(check, "not closed", x -> x.closed(0, false));
    }

    /** "a call that is refused .. changes nothing": for a wrong argument. */
    static void wrongCallsChangeNothing(Check check) {
        changesNothing(check, "piece(10, 5, true)", Floors::yard, x -> x.piece(10, 5, true));
        changesNothing(check, "piece(0, 0, true)", Floors::yard, x -> x.piece(0, 0, true));
        changesNothing(check, "join, same piece", Floors::yard, x -> x.join(0, 0, 0, 1, 5));
        changesNothing(check, "join, seconds", Floors::yard, x -> x.join(0, 0, 1, 1, 101));
        changesNothing(check, "lift, one level", Floors::yard, x -> x.lift(0, 1, 5));
        changesNothing(check, "lift, seconds", Floors::yard, x -> x.lift(0, 3, -1));
        changesNothing(check, "turn, direction", Floors::yard, x -> x.turn(0, 2, true));
        changesNothing(check, "turn, join", Floors::yard, x -> x.turn(3, 0, true));
        changesNothing(check, "width, width", Floors::yard, x -> x.width(0, 0));
        changesNothing(check, "width, piece", Floors::yard, x -> x.width(5, 1));
        changesNothing(check, "zone, hour", Floors::yard, x -> x.zone(0, 24, true));
        changesNothing(check, "zone, piece", Floors::yard, x -> x.zone(5, 0, true));
        changesNothing(check, "closed", Floors::yard, x -> x.closed(5, true));
        changesNothing(check, "robot(501)", Floors::yard, x -> x.robot(501));
        changesNothing(check, "charger(5)", Floors::yard, x -> x.charger(5));
        changesNothing(check, "charger where one is", Floors::yard, x -> x.charger(0));
        changesNothing(check, "way", Floors::yard, x -> x.way(0, 0, 5, 0));
        changesNothing(check, "same", Floors::yard, x -> x.same(0, 0, 5, 0));
        changesNothing(check, "nearest", Floors::yard, x -> x.nearest(0, 5, 0));
        changesNothing(check, "plain", Floors::yard, x -> x.plain(0, 0, 1, 0, 6));
    }

    /** "a call that is refused .. changes nothing": because all is full. */
    static void callsOnAFullFloorChangeNothing(Check check) {
        changesNothing(check, "piece 20", Floors::fullOfPieces, x -> x.piece(0, 5, true));
        changesNothing(check, "join 40", Floors::fullOfJoins, x -> x.join(0, 1, 1, 0, 5));
        changesNothing(check, "lift 40", Floors::fullOfJoins, x -> x.lift(0, 2, 5));
        changesNothing(check, "robot 6", Floors::fullOfRobots, x -> x.robot(1));
        changesNothing(check, "robot 6, too wide", Floors::fullOfRobots, x -> x.robot(500));
        changesNothing(check, "charger 8", Floors::fullOfChargers, x -> x.charger(0));
    }

    /** "a call that is refused .. changes nothing": a refused table() works no row. */
    static void aRefusedTableWorksNoRow(Check check) {
        FloorGraph x = Floors.line(3);
        x.charger(0);
        check.index("j too large", () -> x.table(0, 1));
        check.index("j too small", () -> x.table(0, -1));
        check.index("i too large", () -> x.table(1, 0));
        check.index("i too small", () -> x.table(-1, 0));
        check.due("rows()", x.rows(), 0);
        check.due("asked for the first time", anew(x), 1);
        check.index("j too large, row kept", () -> x.table(0, 1));
        check.due("still kept", anew(x), 0);
        FloorGraph y = new FloorGraph();
        y.piece(0, 5, true);
        y.charger(0);
        check.state("no robot", () -> y.table(0, 0));
        check.due("rows() without a robot", y.rows(), 0);
    }

    /** "or robot() that answers -1, changes nothing". */
    static void aRobotThatIsNoneChangesNothing(Check check) {
        FloorGraph x = Floors.yard();
        check.due("robot(101)", x.robot(101), -1);
        check.due("row 0", anew(x), 0);
        check.due("robot(100)", x.robot(100), 2);
        check.due("row 0 then", anew(x), 1);
    }

    /** Questions change nothing. */
    static void questionsChangeNothing(Check check) {
        FloorGraph x = Floors.yard();
        x.way(1, 0, 1, 3);
        x.step(0);
        x.same(1, 0, 1, 3);
        x.nearest(1, 0, 3);
        x.table(1, 0);
        x.rows();
        x.plain(1, 0, 2, 3, 5);
        x.count(0);
        check.due("row 0", anew(x), 0);
    }

    /** The other questions drive too, and leave what the kept row holds. */
    static void theKeptRowHolds(Check check) {
        FloorGraph x = Floors.line(4);
        x.robot(100);
        x.width(1, 60);
        x.charger(0);
        x.charger(2);
        x.charger(3);
        check.due("worked", x.table(0, 1), 12);
        x.way(1, 3, 0, 5);
        x.nearest(1, 1, 5);
        x.table(2, 0);
        check.due("kept", x.table(0, 2), 23);
        check.due("rows()", x.rows(), 2);
    }
}
