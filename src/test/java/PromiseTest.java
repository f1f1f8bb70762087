/** One method for each promise of the document: ordinary inputs, its edges, wrong inputs. */
public final class PromiseTest {
    private static final int LOW = Integer.MIN_VALUE;
    private static final int HIGH = Integer.MAX_VALUE;
    private static final Check check = new Check();

    public static void main(String[] args) {
        newObject();
        piece();
        pieceLimit();
        join();
        joinLimit();
        lift();
        turn();
        width();
        zone();
        closed();
        robot();
        robotLimit();
        way();
        wayByEnds();
        wayTiesAndTurns();
        step();
        stepTies();
        same();
        charger();
        nearest();
        table();
        rows();
        rowsOfEachChange();
        rowsOfRefusedCalls();
        plain();
        plainOnEnds();
        plainMost();
        count();
        check.end("PromiseTest");
    }

    /** Two-way pieces of one level with these lengths, and a robot of width 50. */
    private static FloorGraph twoWayFloor(int... lengths) {
        FloorGraph x = new FloorGraph();
        for (int length : lengths) {
            x.piece(0, length, true);
        }
        x.robot(50);
        return x;
    }

    /** Pieces 0 to n - 1, end 1 of each joined with end 0 of the next one by 1 second. */
    private static FloorGraph line(int n) {
        FloorGraph x = new FloorGraph();
        for (int i = 0; i < n; i++) {
            x.piece(0, 10, true);
        }
        for (int i = 0; i + 1 < n; i++) {
            x.join(i, 1, i + 1, 0, 1);
        }
        x.robot(50);
        return x;
    }

    private static String steps(FloorGraph x) {
        StringBuilder text = new StringBuilder();
        for (int i = 0; i < 50 && x.step(i) != -1; i++) {
            text.append(text.length() == 0 ? "" : " ").append(x.step(i));
        }
        return text.toString();
    }

    private static void newObject() {
        check.promise("1 new object");
        FloorGraph x = new FloorGraph();
        for (int what = 0; what <= 4; what++) {
            check.due("count(" + what + ")", x.count(what), 0);
        }
        check.due("rows()", x.rows(), 0);
        check.due("step(0)", x.step(0), -1);
        check.argument("closed(0, true)", () -> x.closed(0, true));
        check.argument("turn(0, 0, true)", () -> x.turn(0, 0, true));
        check.argument("way(0, 0, 0, 0)", () -> x.way(0, 0, 0, 0));
        check.state("table(0, 0)", () -> x.table(0, 0));
        FloorGraph y = new FloorGraph();
        y.piece(0, 1, true);
        check.due("count(0) of another object", x.count(0), 0);
    }

    private static void piece() {
        check.promise("2 piece");
        FloorGraph x = new FloorGraph();
        check.argument("level -1", () -> x.piece(-1, 1, true));
        check.argument("level 10", () -> x.piece(10, 1, true));
        check.argument("level least", () -> x.piece(LOW, 1, true));
        check.argument("level greatest", () -> x.piece(HIGH, 1, true));
        check.argument("length 0", () -> x.piece(0, 0, true));
        check.argument("length -1", () -> x.piece(0, -1, false));
        check.argument("length 1001", () -> x.piece(0, 1001, false));
        check.argument("length least", () -> x.piece(0, LOW, false));
        check.argument("length greatest", () -> x.piece(0, HIGH, false));
        check.due("count(0) after refused ones", x.count(0), 0);
        check.due("piece(0, 1, true)", x.piece(0, 1, true), 0);
        check.due("piece(9, 1000, false)", x.piece(9, 1000, false), 1);
        check.due("piece(9, 1000, false) again", x.piece(9, 1000, false), 2);
        check.due("count(0)", x.count(0), 3);
    }

    private static void pieceLimit() {
        FloorGraph x = new FloorGraph();
        for (int i = 0; i < 20; i++) {
            check.due("piece " + i, x.piece(i % 10, 5, i % 2 == 0), i);
        }
        check.unsupported("a piece more", () -> x.piece(0, 5, true));
        check.argument("a wrong piece more", () -> x.piece(0, 1001, true));
        check.due("count(0)", x.count(0), 20);
        check.due("closed(19, true)", x.closed(19, true), 1);
    }

    private static void join() {
        check.promise("3 join");
        FloorGraph x = twoWayFloor(5, 5, 5);
        x.piece(1, 5, true);
        check.argument("no first piece", () -> x.join(4, 0, 0, 0, 1));
        check.argument("first piece -1", () -> x.join(-1, 0, 0, 0, 1));
        check.argument("no other piece", () -> x.join(0, 0, 4, 0, 1));
        check.argument("other piece -1", () -> x.join(0, 0, -1, 0, 1));
        check.argument("pieces far out", () -> x.join(LOW, 0, HIGH, 0, 1));
        check.argument("end 2", () -> x.join(0, 2, 1, 0, 1));
        check.argument("end -1", () -> x.join(0, -1, 1, 0, 1));
        check.argument("other end 2", () -> x.join(0, 0, 1, 2, 1));
        check.argument("other end -1", () -> x.join(0, 0, 1, -1, 1));
        check.argument("the same piece, two ends", () -> x.join(1, 0, 1, 1, 1));
        check.argument("the same piece, one end", () -> x.join(1, 0, 1, 0, 1));
        check.argument("different levels", () -> x.join(0, 0, 3, 0, 1));
        check.argument("seconds -1", () -> x.join(0, 0, 1, 0, -1));
        check.argument("seconds 101", () -> x.join(0, 0, 1, 0, 101));
        check.due("count(1) after refused ones", x.count(1), 0);
        check.due("join(0, 1, 1, 0, 100)", x.join(0, 1, 1, 0, 100), 0);
        check.due("join(1, 1, 2, 1, 0)", x.join(1, 1, 2, 1, 0), 1);
        check.due("join(1, 1, 2, 1, 0) again", x.join(1, 1, 2, 1, 0), 2);
        check.due("count(1)", x.count(1), 3);
        check.due("way 0 to 1", x.way(0, 0, 1, 0), 100);
        check.due("way 1 to 0", x.way(0, 1, 0, 0), 100);
        check.due("way 0 to 2", x.way(0, 0, 2, 0), 105);
    }

    private static void joinLimit() {
        FloorGraph x = twoWayFloor(5, 5);
        x.piece(1, 5, true);
        for (int i = 0; i < 39; i++) {
            check.due("join " + i, x.join(0, 1, 1, 0, 50), i);
        }
        check.due("join 39, a lift", x.lift(1, 2, 3), 39);
        check.unsupported("a join more", () -> x.join(0, 1, 1, 0, 0));
        check.unsupported("a lift more", () -> x.lift(0, 2, 0));
        check.argument("a wrong join more", () -> x.join(0, 1, 0, 0, 0));
        check.argument("a join of wrong seconds more", () -> x.join(0, 1, 1, 0, 101));
        check.argument("a wrong lift more", () -> x.lift(0, 1, 0));
        check.argument("a lift of wrong seconds more", () -> x.lift(0, 2, -1));
        check.due("count(1)", x.count(1), 40);
        check.due("way 0 to 2", x.way(0, 0, 2, 0), 58);
        check.due("plain 0 to 2", x.plain(0, 0, 2, 0, 1), 39);
    }

    private static void lift() {
        check.promise("4 lift");
        FloorGraph x = twoWayFloor(5, 7);
        x.piece(1, 9, true);
        x.piece(9, 11, false);
        check.argument("no first piece", () -> x.lift(4, 0, 1));
        check.argument("first piece -1", () -> x.lift(-1, 0, 1));
        check.argument("no other piece", () -> x.lift(0, 4, 1));
        check.argument("other piece -1", () -> x.lift(0, -1, 1));
        check.argument("one level", () -> x.lift(0, 1, 1));
        check.argument("the same piece", () -> x.lift(0, 0, 1));
        check.argument("seconds -1", () -> x.lift(0, 2, -1));
        check.argument("seconds 101", () -> x.lift(0, 2, 101));
        check.due("count(1) after refused ones", x.count(1), 0);
        check.due("lift(0, 2, 100)", x.lift(0, 2, 100), 0);
        check.due("lift(2, 3, 0)", x.lift(2, 3, 0), 1);
        check.due("join behind lifts", x.join(0, 1, 1, 1, 4), 2);
        check.due("way 0 to 2", x.way(0, 0, 2, 0), 100);
        check.due("way 2 to 0", x.way(0, 2, 0, 0), 100);
        check.due("a lift comes to end 1: no way into a one-way piece", x.way(0, 2, 3, 0), -1);
        check.due("a lift goes from end 1: out of a one-way piece", x.way(0, 3, 2, 0), 0);
        check.due("it drives from end 1 to end 0, not on by end 1", x.way(0, 1, 2, 0), -1);
        check.due("turn of a lift", x.turn(0, 0, true), 1);
        check.due("way 0 to 2 barred", x.way(0, 0, 2, 0), -1);
        check.due("way 2 to 0 not barred", x.way(0, 2, 0, 0), 100);
    }

    private static void turn() {
        check.promise("5 turn");
        FloorGraph x = twoWayFloor(5, 5);
        x.join(0, 1, 1, 0, 3);
        x.join(1, 1, 0, 0, 8);
        check.argument("no such join", () -> x.turn(2, 0, true));
        check.argument("join -1", () -> x.turn(-1, 0, true));
        check.argument("join far out", () -> x.turn(HIGH, 0, true));
        check.argument("join far below", () -> x.turn(LOW, 0, true));
        check.argument("direction 2", () -> x.turn(0, 2, true));
        check.argument("direction -1", () -> x.turn(0, -1, true));
        check.due("barred after refused ones", x.count(4), 0);
        check.due("not barred as it was", x.turn(0, 0, false), 0);
        check.due("direction 0 barred", x.turn(0, 0, true), 1);
        check.due("there by the other join", x.way(0, 0, 1, 0), 8);
        check.due("back by this one", x.way(0, 1, 0, 0), 3);
        check.due("barred again", x.turn(0, 0, true), 1);
        check.due("the other join's direction 1", x.turn(1, 1, true), 1);
        check.due("there by none", x.way(0, 0, 1, 0), -1);
        check.due("direction 1 barred too", x.turn(0, 1, true), 2);
        check.due("back by the other join", x.way(0, 1, 0, 0), 8);
        check.due("all barred", x.count(4), 3);
        check.due("direction 0 free", x.turn(0, 0, false), 1);
        check.due("there again", x.way(0, 0, 1, 0), 3);
        check.due("direction 1 free", x.turn(0, 1, false), 0);
        check.due("all barred then", x.count(4), 1);
    }

    private static void width() {
        check.promise("6 width");
        FloorGraph x = twoWayFloor(5, 5, 5);
        x.join(0, 1, 1, 0, 0);
        x.join(1, 1, 2, 0, 0);
        x.robot(100);
        check.argument("no such piece", () -> x.width(3, 100));
        check.argument("piece -1", () -> x.width(-1, 100));
        check.argument("width 0", () -> x.width(1, 0));
        check.argument("width -1", () -> x.width(1, -1));
        check.argument("width 501", () -> x.width(1, 501));
        check.due("100 at first, wide enough for 100", x.way(1, 0, 2, 0), 5);
        x.width(1, 99);
        check.due("99 for 100", x.way(1, 0, 2, 0), -1);
        check.due("99 for 50", x.way(0, 0, 2, 0), 5);
        x.width(1, 50);
        check.due("50 for 50", x.way(0, 0, 2, 0), 5);
        x.width(1, 1);
        check.due("1 for 50", x.way(0, 0, 1, 0), -1);
        check.due("out of a narrow piece", x.way(0, 1, 2, 0), 0);
        x.width(1, 500);
        check.due("500 for 100", x.way(1, 0, 2, 0), 5);
    }

    private static void zone() {
        check.promise("7 zone");
        FloorGraph x = twoWayFloor(5, 5, 5);
        x.join(0, 1, 1, 0, 0);
        x.join(1, 1, 2, 0, 0);
        check.argument("no such piece", () -> x.zone(3, 0, true));
        check.argument("piece -1", () -> x.zone(-1, 0, true));
        check.argument("hour -1", () -> x.zone(0, -1, true));
        check.argument("hour 24", () -> x.zone(0, 24, true));
        check.argument("hour far out", () -> x.zone(0, LOW, true));
        check.due("none as it was", x.zone(1, 5, false), 0);
        for (int hour = 0; hour < 24; hour++) {
            check.due("way in hour " + hour, x.way(0, 0, 2, hour), 5);
            check.due("zone in hour " + hour, x.zone(1, hour, true), hour + 1);
            check.due("way barred in hour " + hour, x.way(0, 0, 2, hour), -1);
        }
        check.due("told again", x.zone(1, 23, true), 24);
        check.due("another piece's hours", x.zone(0, 23, true), 1);
        check.due("out of a barred piece", x.way(0, 1, 2, 23), 0);
        check.due("into a barred piece", x.way(0, 1, 0, 23), -1);
        check.due("freed in hour 0", x.zone(1, 0, false), 23);
        check.due("way in hour 0", x.way(0, 0, 2, 0), 5);
        check.due("way in hour 1", x.way(0, 0, 2, 1), -1);
    }

    private static void closed() {
        check.promise("8 closed");
        FloorGraph x = twoWayFloor(5, 5, 5);
        x.join(0, 1, 1, 0, 0);
        x.join(1, 1, 2, 0, 0);
        check.argument("no such piece", () -> x.closed(3, true));
        check.argument("piece -1", () -> x.closed(-1, true));
        check.argument("no such piece, off", () -> x.closed(HIGH, false));
        check.due("open as it was", x.closed(1, false), 0);
        check.due("closed", x.closed(1, true), 1);
        check.due("way through it", x.way(0, 0, 2, 0), -1);
        check.due("way to it", x.way(0, 0, 1, 0), -1);
        check.due("way out of it", x.way(0, 1, 2, 0), 0);
        check.due("way from it to itself", x.way(0, 1, 1, 0), 0);
        check.due("closed again", x.closed(1, true), 1);
        check.due("another one", x.closed(0, true), 2);
        check.due("a third one", x.closed(2, true), 3);
        check.due("open", x.closed(0, false), 2);
        check.due("open too", x.closed(2, false), 1);
        check.due("all open", x.closed(1, false), 0);
        check.due("way through it again", x.way(0, 0, 2, 0), 5);
    }

    private static void robot() {
        check.promise("9 robot");
        FloorGraph x = new FloorGraph();
        check.due("no pieces", x.robot(1), -1);
        check.argument("width 0, no pieces", () -> x.robot(0));
        x.piece(0, 5, true);
        x.piece(0, 5, true);
        check.argument("width 0", () -> x.robot(0));
        check.argument("width -1", () -> x.robot(-1));
        check.argument("width 501", () -> x.robot(501));
        check.argument("width least", () -> x.robot(LOW));
        check.argument("width greatest", () -> x.robot(HIGH));
        check.due("wider than all", x.robot(101), -1);
        check.due("there is none", x.count(2), 0);
        check.argument("way of none", () -> x.way(0, 0, 1, 0));
        check.due("as wide as all", x.robot(100), 0);
        x.width(0, 40);
        check.due("wider than one only", x.robot(100), 1);
        x.width(1, 60);
        check.due("wider than all by one", x.robot(61), -1);
        check.due("as wide as the widest", x.robot(60), 2);
        x.width(0, 500);
        x.closed(0, true);
        check.due("closed pieces count", x.robot(500), 3);
        check.due("count(2)", x.count(2), 4);
    }

    private static void robotLimit() {
        FloorGraph x = new FloorGraph();
        x.piece(0, 5, true);
        for (int i = 0; i < 6; i++) {
            check.due("robot " + i, x.robot(1 + i), i);
        }
        check.unsupported("a robot more", () -> x.robot(1));
        check.unsupported("one more that is too wide", () -> x.robot(101));
        check.argument("one more of a wrong width", () -> x.robot(501));
        check.due("count(2)", x.count(2), 6);
    }

    private static void way() {
        check.promise("10 way");
        FloorGraph x = line(5);
        check.due("to itself", x.way(0, 3, 3, 0), 0);
        check.due("to the next one", x.way(0, 0, 1, 0), 1);
        check.due("over one", x.way(0, 0, 2, 23), 12);
        check.due("over three", x.way(0, 0, 4, 23), 34);
        check.due("back", x.way(0, 4, 0, 0), 34);
        check.due("none", line(1).way(0, 0, 0, 0), 0);
        x.piece(0, 5, true);
        check.due("to a piece without joins", x.way(0, 0, 5, 0), -1);
        check.due("from a piece without joins", x.way(0, 5, 0, 0), -1);
        check.argument("no such robot", () -> x.way(1, 0, 1, 0));
        check.argument("robot -1", () -> x.way(-1, 0, 1, 0));
        check.argument("no such first piece", () -> x.way(0, 6, 1, 0));
        check.argument("first piece -1", () -> x.way(0, -1, 1, 0));
        check.argument("no such last piece", () -> x.way(0, 0, 6, 0));
        check.argument("last piece -1", () -> x.way(0, 0, -1, 0));
        check.argument("both the same, none", () -> x.way(0, 6, 6, 0));
        check.argument("hour 24", () -> x.way(0, 0, 1, 24));
        check.argument("hour -1", () -> x.way(0, 0, 1, -1));
        check.argument("all far out", () -> x.way(LOW, HIGH, LOW, HIGH));
        check.argument("to itself, hour 24", () -> x.way(0, 3, 3, 24));
    }

    private static void wayByEnds() {
        FloorGraph x = new FloorGraph();
        x.piece(0, 5, false);
        x.piece(0, 7, false);
        x.piece(0, 9, true);
        x.robot(50);
        x.join(0, 0, 1, 0, 1);
        check.due("a one-way piece is not left by end 0", x.way(0, 0, 1, 0), -1);
        x.join(0, 1, 1, 1, 2);
        check.due("a one-way piece is not entered by end 1", x.way(0, 0, 1, 0), -1);
        x.join(0, 1, 2, 1, 3);
        check.due("a two-way piece is entered by end 1", x.way(0, 0, 2, 0), 3);
        x.join(2, 1, 1, 0, 1);
        check.due("who came by end 1 does not go on from it", x.way(0, 0, 1, 0), -1);
        x.join(2, 0, 1, 0, 4);
        check.due("but from end 0", x.way(0, 0, 1, 0), 16);
        check.due("who stands there leaves by both ends", x.way(0, 2, 1, 0), 1);
    }

    private static void wayTiesAndTurns() {
        // 0 comes to 1 by end 0; only 1's end 0 is joined to 3; 2 is a loop behind 1's end 1.
        FloorGraph x = twoWayFloor(1, 10, 20, 5);
        x.join(0, 1, 1, 0, 1);
        x.join(1, 1, 2, 0, 2);
        x.join(2, 1, 1, 1, 3);
        x.join(1, 0, 3, 0, 4);
        check.due("through 1, round 2, back through 1", x.way(0, 0, 3, 0), 1 + 10 + 2 + 20 + 3 + 10 + 4);
        check.due("steps", steps(x), "0 1 2 1 3");
        x.turn(1, 0, true);
        check.due("round 2 the other way", x.way(0, 0, 3, 0), 50);
        x.turn(2, 1, true);
        check.due("not round 2 at all", x.way(0, 0, 3, 0), -1);
    }

    private static void step() {
        check.promise("11 step");
        FloorGraph x = line(4);
        check.due("before any way", x.step(0), -1);
        x.way(0, 0, 3, 0);
        check.due("over two", steps(x), "0 1 2 3");
        check.due("step(-1)", x.step(-1), -1);
        check.due("step(4)", x.step(4), -1);
        check.due("step(least)", x.step(LOW), -1);
        check.due("step(greatest)", x.step(HIGH), -1);
        check.argument("a refused way", () -> x.way(0, 0, 4, 0));
        check.due("the way before the refused one", steps(x), "0 1 2 3");
        x.same(0, 3, 1, 0);
        x.nearest(0, 2, 0);
        x.charger(2);
        x.table(0, 0);
        x.plain(0, 3, 0, 0, 5);
        x.closed(1, true);
        check.due("the way told last, as it was then", steps(x), "0 1 2 3");
        x.way(0, 3, 2, 0);
        check.due("back by one", steps(x), "3 2");
        x.way(0, 2, 2, 0);
        check.due("one behind 0", steps(x), "2");
        x.way(0, 0, 3, 0);
        check.due("none behind -1", x.step(0), -1);
        FloorGraph y = twoWayFloor(5, 5);
        y.join(0, 1, 1, 0, 0);
        check.due("0 seconds to another piece", y.way(0, 0, 1, 0), 0);
        check.due("are the first one and the last one", steps(y), "0 1");
        FloorGraph z = line(20);
        check.due("over eighteen", z.way(0, 19, 0, 0), 19 + 18 * 10);
        check.due("twenty pieces", steps(z), "19 18 17 16 15 14 13 12 11 10 9 8 7 6 5 4 3 2 1 0");
    }

    private static void stepTies() {
        // From 0 to 4 by 1, 2 or 3 in equal seconds: the last join decides, then the one before.
        FloorGraph x = twoWayFloor(9, 10, 10, 10, 9);
        x.join(0, 1, 1, 0, 2);
        x.join(0, 1, 2, 0, 2);
        x.join(0, 1, 3, 0, 2);
        x.join(3, 1, 4, 0, 5);
        x.join(1, 1, 4, 0, 5);
        x.join(2, 1, 4, 0, 5);
        check.due("way", x.way(0, 0, 4, 0), 17);
        check.due("the lowest last join", steps(x), "0 3 4");
        check.due("way back", x.way(0, 4, 0, 0), 17);
        check.due("the lowest last join of the way back", steps(x), "4 1 0");
        x.turn(3, 0, true);
        x.way(0, 0, 4, 0);
        check.due("the lowest one that is not barred", steps(x), "0 1 4");
        // From 0 to 4 over 3, which 2 (lower join) and 1 reach in equal seconds.
        FloorGraph y = twoWayFloor(9, 10, 10, 10, 9);
        y.join(3, 1, 4, 0, 5);
        y.join(2, 1, 3, 0, 4);
        y.join(1, 1, 3, 0, 3);
        y.join(0, 1, 1, 0, 3);
        y.join(0, 1, 2, 0, 2);
        check.due("way", y.way(0, 0, 4, 0), 31);
        check.due("the lowest join before the last one", steps(y), "0 2 3 4");
        y.closed(2, true);
        y.way(0, 0, 4, 0);
        check.due("the other one", steps(y), "0 1 3 4");
        // A lower join that comes later does not count.
        FloorGraph z = twoWayFloor(9, 11, 10, 9);
        z.join(1, 1, 3, 0, 5);
        z.join(2, 1, 3, 0, 5);
        z.join(0, 1, 1, 0, 1);
        z.join(0, 1, 2, 0, 1);
        check.due("way", z.way(0, 0, 3, 0), 16);
        check.due("the sooner one", steps(z), "0 2 3");
    }

    private static void same() {
        check.promise("12 same");
        FloorGraph x = twoWayFloor(5, 5, 5);
        x.join(0, 1, 1, 0, 3);
        check.due("there and back by one join", x.same(0, 0, 1, 0), true);
        check.due("none there, none back", x.same(0, 0, 2, 0), true);
        check.due("a piece and itself", x.same(0, 2, 2, 0), true);
        x.turn(0, 0, true);
        check.due("none there", x.same(0, 0, 1, 0), false);
        check.due("none back", x.same(0, 1, 0, 0), false);
        x.join(0, 0, 1, 1, 4);
        check.due("4 there, 3 back", x.same(0, 0, 1, 0), false);
        x.turn(0, 1, true);
        check.due("4 there, 4 back", x.same(0, 1, 0, 0), true);
        x.zone(1, 7, true);
        check.due("in hour 7 none there", x.same(0, 0, 1, 7), false);
        check.due("in hour 8 as before", x.same(0, 0, 1, 8), true);
        check.argument("no such robot", () -> x.same(1, 0, 1, 0));
        check.argument("robot -1", () -> x.same(-1, 0, 1, 0));
        check.argument("no such a", () -> x.same(0, 3, 1, 0));
        check.argument("a -1", () -> x.same(0, -1, 1, 0));
        check.argument("no such b", () -> x.same(0, 0, 3, 0));
        check.argument("b -1", () -> x.same(0, 0, -1, 0));
        check.argument("hour -1", () -> x.same(0, 0, 1, -1));
        check.argument("hour 24", () -> x.same(0, 0, 0, 24));
    }

    private static void charger() {
        check.promise("13 charger");
        FloorGraph x = new FloorGraph();
        check.argument("no pieces", () -> x.charger(0));
        for (int i = 0; i < 10; i++) {
            x.piece(i, 5, true);
        }
        check.argument("no such piece", () -> x.charger(10));
        check.argument("piece -1", () -> x.charger(-1));
        check.due("none after refused ones", x.count(3), 0);
        for (int i = 0; i < 8; i++) {
            check.due("charger " + i, x.charger(9 - i), i + 1);
            int piece = 9 - i;
            check.state("a second one there", () -> x.charger(piece));
        }
        check.unsupported("one more", () -> x.charger(0));
        check.state("one more where there is one", () -> x.charger(9));
        check.argument("one more at no piece", () -> x.charger(10));
        check.due("count(3)", x.count(3), 8);
    }

    private static void nearest() {
        check.promise("14 nearest");
        FloorGraph x = line(6);
        check.due("no chargers", x.nearest(0, 0, 0), -1);
        x.charger(5);
        check.due("the only one", x.nearest(0, 0, 0), 5);
        x.charger(1);
        check.due("the nearer one", x.nearest(0, 2, 0), 1);
        check.due("of equal ones the lowest, though it was put later", x.nearest(0, 3, 0), 1);
        check.due("the nearer one above", x.nearest(0, 4, 0), 5);
        check.due("where it stands", x.nearest(0, 5, 0), 5);
        x.closed(5, true);
        check.due("where it stands, though closed", x.nearest(0, 5, 0), 5);
        check.due("not to a closed one", x.nearest(0, 4, 0), 1);
        x.zone(1, 6, true);
        check.due("to none in hour 6", x.nearest(0, 4, 6), -1);
        check.due("in hour 7", x.nearest(0, 4, 7), 1);
        FloorGraph y = twoWayFloor(5, 5);
        y.join(1, 0, 0, 0, 0);
        y.charger(1);
        y.charger(0);
        check.due("0 seconds to a lower one", y.nearest(0, 1, 0), 0);
        check.due("0 seconds to a higher one", y.nearest(0, 0, 0), 0);
        check.argument("no such robot", () -> x.nearest(1, 0, 0));
        check.argument("robot -1", () -> x.nearest(-1, 0, 0));
        check.argument("no such piece", () -> x.nearest(0, 6, 0));
        check.argument("piece -1", () -> x.nearest(0, -1, 0));
        check.argument("hour -1", () -> x.nearest(0, 0, -1));
        check.argument("hour 24", () -> x.nearest(0, 0, 24));
    }

    private static void table() {
        check.promise("15 table");
        FloorGraph x = new FloorGraph();
        for (int i = 0; i < 4; i++) {
            x.piece(0, 10 + i, true);
        }
        x.join(0, 1, 1, 0, 1);
        x.join(1, 1, 2, 0, 2);
        x.charger(2);
        check.state("no robot", () -> x.table(0, 0));
        check.state("no robot, no such charger", () -> x.table(5, -1));
        x.robot(70);
        x.robot(10);
        x.charger(0);
        x.charger(3);
        check.due("from 2 to 0", x.table(0, 1), 14);
        check.due("from 0 to 2", x.table(1, 0), 14);
        check.due("to itself", x.table(1, 1), 0);
        check.due("from 0 to 3", x.table(1, 2), -1);
        check.due("from 3 to 0", x.table(2, 1), -1);
        x.zone(1, 11, true);
        x.zone(1, 13, true);
        check.due("other hours", x.table(0, 1), 14);
        x.zone(1, 12, true);
        check.due("hour 12", x.table(0, 1), -1);
        x.zone(1, 12, false);
        x.width(1, 69);
        check.due("robot 0 is too wide", x.table(1, 0), -1);
        x.width(1, 70);
        check.due("it fits", x.table(1, 0), 14);
        x.turn(1, 0, true);
        check.due("from 0 to 2 barred", x.table(1, 0), -1);
        check.due("from 2 to 0 not", x.table(0, 1), 14);
        check.index("table(3, 0)", () -> x.table(3, 0));
        check.index("table(0, 3)", () -> x.table(0, 3));
        check.index("table(-1, 0)", () -> x.table(-1, 0));
        check.index("table(0, -1)", () -> x.table(0, -1));
        check.index("table(8, 8)", () -> x.table(8, 8));
        check.index("table far out", () -> x.table(LOW, HIGH));
        FloorGraph y = twoWayFloor(1);
        check.index("no chargers", () -> y.table(0, 0));
    }

    private static void rows() {
        check.promise("16 rows");
        FloorGraph x = line(4);
        x.charger(0);
        x.charger(3);
        check.due("none asked for", x.rows(), 0);
        x.table(0, 0);
        check.due("a row, though to itself", x.rows(), 1);
        x.table(0, 1);
        x.table(0, 0);
        check.due("the row is kept", x.rows(), 1);
        x.table(1, 0);
        check.due("another row", x.rows(), 2);
        x.closed(1, true);
        check.due("a change works no row", x.rows(), 2);
        x.table(1, 1);
        x.table(1, 0);
        check.due("one row anew", x.rows(), 3);
        x.table(0, 1);
        check.due("the other row anew", x.rows(), 4);
        x.way(0, 0, 1, 0);
        x.same(0, 0, 1, 0);
        x.nearest(0, 0, 0);
        x.plain(0, 0, 1, 0, 5);
        x.step(0);
        x.count(0);
        x.table(0, 1);
        x.table(1, 0);
        check.due("questions change nothing", x.rows(), 4);
    }

    private static void anew(FloorGraph x, String change, int more) {
        int before = x.rows();
        x.table(0, 0);
        check.due("rows anew after " + change, x.rows() - before, more);
    }

    private static void rowsOfEachChange() {
        FloorGraph x = line(4);
        x.charger(0);
        anew(x, "the beginning", 1);
        x.piece(1, 5, true);
        anew(x, "piece", 1);
        x.join(0, 0, 1, 1, 5);
        anew(x, "join", 1);
        x.lift(0, 4, 5);
        anew(x, "lift", 1);
        x.turn(0, 0, true);
        anew(x, "turn", 1);
        x.turn(0, 0, true);
        anew(x, "turn as it was", 1);
        x.width(0, 90);
        anew(x, "width", 1);
        x.width(0, 90);
        anew(x, "width as it was", 1);
        x.zone(0, 3, true);
        anew(x, "zone", 1);
        x.zone(0, 3, true);
        anew(x, "zone as it was", 1);
        x.zone(0, 4, false);
        anew(x, "no zone as it was", 1);
        x.closed(2, true);
        anew(x, "closed", 1);
        x.closed(2, true);
        anew(x, "closed as it was", 1);
        x.robot(10);
        anew(x, "robot", 1);
        x.charger(1);
        anew(x, "charger", 1);
        anew(x, "nothing", 0);
    }

    private static void rowsOfRefusedCalls() {
        FloorGraph x = line(4);
        x.charger(0);
        check.index("no such j, row 0 not worked yet", () -> x.table(0, 1));
        check.due("a refused table() works no row", x.rows(), 0);
        anew(x, "a refused table()", 1);
        check.argument("piece", () -> x.piece(10, 5, true));
        anew(x, "a refused piece", 0);
        check.argument("join", () -> x.join(0, 0, 0, 0, 5));
        anew(x, "a refused join", 0);
        check.argument("lift", () -> x.lift(0, 1, 5));
        anew(x, "a refused lift", 0);
        check.argument("turn", () -> x.turn(0, 2, true));
        anew(x, "a refused turn", 0);
        check.argument("width", () -> x.width(0, 0));
        anew(x, "a refused width", 0);
        check.argument("zone", () -> x.zone(0, 24, true));
        anew(x, "a refused zone", 0);
        check.argument("closed", () -> x.closed(4, true));
        anew(x, "a refused closed", 0);
        check.argument("robot", () -> x.robot(0));
        anew(x, "a refused robot", 0);
        check.due("robot(500)", x.robot(500), -1);
        anew(x, "a robot that is none", 0);
        check.state("charger", () -> x.charger(0));
        anew(x, "a refused charger", 0);
        x.table(0, 0);
        check.index("table", () -> x.table(1, 0));
        anew(x, "a refused table()", 0);
    }

    private static void plain() {
        check.promise("17 plain");
        FloorGraph x = twoWayFloor(5, 5, 5, 5);
        x.join(0, 1, 1, 0, 1);
        x.join(0, 1, 1, 0, 1);
        x.join(1, 1, 2, 0, 1);
        x.join(0, 0, 2, 1, 100);
        check.due("direct ones by equal joins", x.plain(0, 0, 1, 0, 0), 2);
        check.due("none between", x.plain(0, 0, 2, 0, 0), 1);
        check.due("at most one between", x.plain(0, 0, 2, 0, 1), 3);
        check.due("more do not come", x.plain(0, 0, 2, 0, 5), 3);
        check.due("back", x.plain(0, 2, 0, 0, 5), 3);
        check.due("from a piece to itself", x.plain(0, 0, 0, 0, 5), 0);
        check.due("to a piece without joins", x.plain(0, 0, 3, 0, 5), 0);
        x.turn(0, 0, true);
        check.due("one join barred there", x.plain(0, 0, 2, 0, 1), 2);
        check.due("not barred back", x.plain(0, 2, 0, 0, 1), 3);
        x.zone(1, 4, true);
        check.due("in hour 4", x.plain(0, 0, 2, 4, 1), 1);
        check.due("in hour 5", x.plain(0, 0, 2, 5, 1), 2);
        x.closed(2, true);
        check.due("to a closed one", x.plain(0, 0, 2, 5, 1), 0);
        check.due("from a closed one", x.plain(0, 2, 0, 5, 1), 3);
        check.argument("no such robot", () -> x.plain(1, 0, 1, 0, 0));
        check.argument("robot -1", () -> x.plain(-1, 0, 1, 0, 0));
        check.argument("no such first piece", () -> x.plain(0, 4, 1, 0, 0));
        check.argument("first piece -1", () -> x.plain(0, -1, 1, 0, 0));
        check.argument("no such last piece", () -> x.plain(0, 0, 4, 0, 0));
        check.argument("last piece -1", () -> x.plain(0, 0, -1, 0, 0));
        check.argument("hour -1", () -> x.plain(0, 0, 1, -1, 0));
        check.argument("hour 24", () -> x.plain(0, 0, 1, 24, 0));
        check.argument("most -1", () -> x.plain(0, 0, 1, 0, -1));
        check.argument("most 6", () -> x.plain(0, 0, 1, 0, 6));
        check.argument("most 6, to itself", () -> x.plain(0, 0, 0, 0, 6));
    }

    private static void plainOnEnds() {
        FloorGraph x = new FloorGraph();
        x.piece(0, 5, false);
        x.piece(0, 5, true);
        x.piece(0, 5, false);
        x.robot(50);
        x.join(0, 1, 1, 0, 0);
        x.join(0, 0, 1, 0, 0);
        x.join(1, 1, 2, 0, 0);
        x.join(1, 1, 2, 1, 0);
        x.join(1, 0, 2, 0, 0);
        check.due("one-way ones left by 1, entered by 0", x.plain(0, 0, 2, 0, 1), 1);
        check.due("by both ends of the first one", x.plain(0, 1, 2, 0, 1), 2);
        // As in wayTiesAndTurns(): the only way comes to piece 1 twice.
        FloorGraph y = twoWayFloor(1, 10, 20, 5);
        y.join(0, 1, 1, 0, 1);
        y.join(1, 1, 2, 0, 2);
        y.join(2, 1, 1, 1, 3);
        y.join(1, 0, 3, 0, 4);
        check.due("there is a way", y.way(0, 0, 3, 0), 50);
        check.due("no plain one", y.plain(0, 0, 3, 0, 5), 0);
        // Round 1 and back through 0 there is another way to 2, but it comes to 0 twice.
        FloorGraph v = twoWayFloor(5, 5, 5);
        v.join(0, 1, 1, 0, 1);
        v.join(1, 1, 0, 1, 1);
        v.join(0, 0, 2, 0, 1);
        check.due("not back through the first piece", v.plain(0, 0, 2, 0, 5), 1);
        // A ring: a way does not go on from its last piece.
        FloorGraph z = line(3);
        z.join(2, 1, 0, 0, 1);
        check.due("round the ring either way", z.plain(0, 0, 1, 0, 5), 2);
    }

    private static void plainMost() {
        FloorGraph x = line(8);
        for (int most = 0; most <= 5; most++) {
            check.due("over " + most, x.plain(0, 0, most + 1, 0, most), 1);
            check.due("over one more", x.plain(0, 0, most + 2, 0, most), 0);
        }
        FloorGraph y = twoWayFloor(1, 1, 1, 1, 1, 1, 1);
        int[] joins = {7, 7, 7, 7, 6, 6};
        for (int i = 0; i < joins.length; i++) {
            for (int k = 0; k < joins[i]; k++) {
                y.join(i, 1, i + 1, 0, k);
            }
        }
        check.due("as many as forty joins can make", y.plain(0, 0, 6, 0, 5), 7 * 7 * 7 * 7 * 6 * 6);
    }

    private static void count() {
        check.promise("18 count");
        FloorGraph x = line(4);
        x.robot(20);
        x.charger(1);
        x.turn(0, 0, true);
        x.turn(0, 1, true);
        x.turn(2, 1, true);
        check.due("pieces", x.count(0), 4);
        check.due("joins", x.count(1), 3);
        check.due("robots", x.count(2), 2);
        check.due("chargers", x.count(3), 1);
        check.due("directions that are barred", x.count(4), 3);
        check.due("count(5)", x.count(5), -1);
        check.due("count(-1)", x.count(-1), -1);
        check.due("count(least)", x.count(LOW), -1);
        check.due("count(greatest)", x.count(HIGH), -1);
        x.turn(0, 0, true);
        check.due("barred as it was", x.count(4), 3);
        x.turn(0, 0, false);
        check.due("one is free", x.count(4), 2);
    }
}
