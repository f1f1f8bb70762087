/** Promise 11, step: the pieces of the way that was told last by way(). */
public final class Promise11StepTest {
    public static void main(String[] args) {
        Check.runAll(Promise11StepTest.class);
    }

    /** "-1 if it has not so many": before any way it has none. */
    static void beforeAnyWay(Check check) {
        FloorGraph x = Floors.line(3);
        check.due("step(0)", x.step(0), -1);
        x.same(0, 0, 2, 0);
        x.plain(0, 0, 2, 0, 5);
        x.nearest(0, 0, 0);
        check.due("step(0) after other questions", x.step(0), -1);
    }

    /** "-1 if it has not so many": behind the last one. */
    static void tooLarge(Check check) {
        FloorGraph x = Floors.line(4);
        x.way(0, 0, 3, 0);
        check.due("step(3)", x.step(3), 3);
        check.due("step(4)", x.step(4), -1);
        check.due("step(40)", x.step(40), -1);
        check.due("step(greatest)", x.step(Floors.HIGH), -1);
    }

    /** "-1 if it has not so many": before the first one. */
    static void tooSmall(Check check) {
        FloorGraph x = Floors.line(4);
        x.way(0, 0, 3, 0);
        check.due("step(0)", x.step(0), 0);
        check.due("step(-1)", x.step(-1), -1);
        check.due("step(least)", x.step(Floors.LOW), -1);
    }

    /** "none behind -1": also if a longer way was told before. */
    static void noneBehindNoWay(Check check) {
        FloorGraph x = Floors.line(4);
        x.way(0, 0, 3, 0);
        x.closed(1, true);
        check.due("way", x.way(0, 0, 3, 0), -1);
        check.due("step(0)", x.step(0), -1);
        check.due("step(1)", x.step(1), -1);
        check.due("step(3)", x.step(3), -1);
    }

    /** "one behind 0": also if a longer way was told before. */
    static void oneBehindItself(Check check) {
        FloorGraph x = Floors.line(4);
        x.way(0, 0, 3, 0);
        check.due("way", x.way(0, 2, 2, 0), 0);
        check.due("step(0)", x.step(0), 2);
        check.due("step(1)", x.step(1), -1);
    }

    /** "the first one, those between, the last one": 0 seconds to another piece have both. */
    static void noSecondsToAnother(Check check) {
        FloorGraph x = Floors.twoWay(5, 5);
        x.join(0, 1, 1, 0, 0);
        check.due("way", x.way(0, 0, 1, 0), 0);
        check.due("steps", Floors.steps(x), "0 1");
    }

    /** "the first one, those between, the last one": in the order in which they are driven. */
    static void inTheirOrder(Check check) {
        FloorGraph x = Floors.line(4);
        x.way(0, 0, 3, 0);
        check.due("there", Floors.steps(x), "0 1 2 3");
        x.way(0, 3, 0, 0);
        check.due("back", Floors.steps(x), "3 2 1 0");
        x.way(0, 2, 1, 0);
        check.due("none between", Floors.steps(x), "2 1");
    }

    /** "told last by way()": a refused way() tells none. */
    static void aRefusedWayTellsNone(Check check) {
        FloorGraph x = Floors.line(4);
        x.way(0, 0, 3, 0);
        check.argument("way to piece 4", () -> x.way(0, 0, 4, 0));
        check.argument("way of robot 1", () -> x.way(1, 0, 1, 0));
        check.argument("way in hour 24", () -> x.way(0, 1, 1, 24));
        check.due("steps", Floors.steps(x), "0 1 2 3");
    }

    /** "told last by way()": not by other questions. */
    static void otherQuestionsTellNone(Check check) {
        FloorGraph x = Floors.line(4);
        x.charger(2);
        x.way(0, 0, 3, 0);
        x.same(0, 3, 1, 0);
        x.nearest(0, 1, 0);
        x.table(0, 0);
        x.plain(0, 3, 0, 0, 5);
        check.due("steps", Floors.steps(x), "0 1 2 3");
    }

    /** "the way that was told last": as it was told, though the floor is another one now. */
    static void changesTellNone(Check check) {
        FloorGraph x = Floors.line(4);
        x.way(0, 0, 3, 0);
        x.closed(1, true);
        x.turn(2, 0, true);
        x.width(2, 1);
        x.zone(3, 0, true);
        x.join(0, 1, 3, 0, 0);
        x.piece(0, 1, true);
        x.robot(1);
        x.charger(3);
        check.due("steps", Floors.steps(x), "0 1 2 3");
    }

    /** Twenty pieces in a line. */
    static void allTwentyPieces(Check check) {
        FloorGraph x = Floors.line(20);
        x.way(0, 19, 0, 0);
        check.due("steps", Floors.steps(x), "19 18 17 16 15 14 13 12 11 10 9 8 7 6 5 4 3 2 1 0");
        check.due("step(20)", x.step(20), -1);
    }

    /** Seventeen pieces driven there, round one more and back: no way has more pieces. */
    static void longestWay(Check check) {
        FloorGraph x = new FloorGraph();
        StringBuilder there = new StringBuilder();
        StringBuilder back = new StringBuilder();
        for (int i = 0; i < 20; i++) {
            x.piece(0, 1000, true);
        }
        for (int i = 1; i <= 17; i++) {
            x.join(i - 1, 1, i, 0, 100);
            there.append(' ').append(i);
            back.insert(0, " " + i);
        }
        x.join(17, 1, 18, 0, 100);
        x.join(18, 1, 17, 1, 100);
        x.join(1, 0, 19, 0, 100);
        x.robot(50);
        check.due("way", x.way(0, 0, 19, 0), 35 * 1000 + 36 * 100);
        check.due("steps", Floors.steps(x), "0" + there + " 18" + back + " 19");
        check.due("step(36)", x.step(36), 19);
        check.due("step(37)", x.step(37), -1);
    }

    /** "the join by which it is there first, of equal ones the lowest": there and back. */
    static void theLowestLastJoin(Check check) {
        FloorGraph x = Floors.twoWay(9, 10, 10, 10, 9);
        x.join(0, 1, 1, 0, 2);
        x.join(0, 1, 2, 0, 2);
        x.join(0, 1, 3, 0, 2);
        x.join(3, 1, 4, 0, 5);
        x.join(1, 1, 4, 0, 5);
        x.join(2, 1, 4, 0, 5);
        check.due("way", x.way(0, 0, 4, 0), 17);
        check.due("by join 3", Floors.steps(x), "0 3 4");
        check.due("way back", x.way(0, 4, 0, 0), 17);
        check.due("by join 0", Floors.steps(x), "4 1 0");
        x.turn(3, 0, true);
        x.way(0, 0, 4, 0);
        check.due("join 3 barred: by join 4", Floors.steps(x), "0 1 4");
    }

    /** "of equal ones the lowest": the join, whichever of its ends was told first. */
    static void theLowestLastJoinEitherWayTold(Check check) {
        FloorGraph x = Floors.twoWay(9, 10, 10, 9);
        x.join(3, 0, 2, 1, 5);
        x.join(1, 1, 3, 0, 5);
        x.join(0, 1, 1, 0, 2);
        x.join(0, 1, 2, 0, 2);
        x.way(0, 0, 3, 0);
        check.due("by join 0, back", Floors.steps(x), "0 2 3");
    }

    /** "of equal ones the lowest": by either end of the last piece. */
    static void theLowestLastJoinByEitherEnd(Check check) {
        FloorGraph x = Floors.twoWay(9, 10, 10, 9);
        x.join(2, 1, 3, 1, 5);
        x.join(1, 1, 3, 0, 5);
        x.join(0, 1, 1, 0, 2);
        x.join(0, 1, 2, 0, 2);
        x.way(0, 0, 3, 0);
        check.due("by join 0, to end 1", Floors.steps(x), "0 2 3");
    }

    /** "by which it is there first": a lower join that comes later is none of the equal ones. */
    static void aLaterLowerLastJoin(Check check) {
        FloorGraph x = Floors.twoWay(9, 11, 10, 9);
        x.join(1, 1, 3, 0, 5);
        x.join(2, 1, 3, 0, 5);
        x.join(0, 1, 1, 0, 1);
        x.join(0, 1, 2, 0, 1);
        check.due("way", x.way(0, 0, 3, 0), 16);
        check.due("by join 1", Floors.steps(x), "0 2 3");
    }

    /** "the lowest join by which its piece was entered by the other end". */
    static void theLowestJoinBefore(Check check) {
        FloorGraph x = Floors.twoWay(9, 10, 10, 10, 9);
        x.join(3, 1, 4, 0, 5);
        x.join(2, 1, 3, 0, 4);
        x.join(1, 1, 3, 0, 3);
        x.join(0, 1, 1, 0, 3);
        x.join(0, 1, 2, 0, 2);
        check.due("way", x.way(0, 0, 4, 0), 31);
        check.due("join 1 before join 0", Floors.steps(x), "0 2 3 4");
        x.closed(2, true);
        x.way(0, 0, 4, 0);
        check.due("join 2 before join 0", Floors.steps(x), "0 1 3 4");
    }

    /** "so that it is reached just then": a lower join that comes later is passed over. */
    static void aLaterLowerJoinBefore(Check check) {
        FloorGraph x = Floors.twoWay(9, 10, 10, 10, 9);
        x.join(3, 1, 4, 0, 5);
        x.join(2, 1, 3, 0, 5);
        x.join(1, 1, 3, 0, 3);
        x.join(0, 1, 1, 0, 3);
        x.join(0, 1, 2, 0, 2);
        check.due("way", x.way(0, 0, 4, 0), 31);
        check.due("join 2 before join 0", Floors.steps(x), "0 1 3 4");
    }

    /** "entered by the other end": a lower join to the end itself, just then too, is passed over. */
    static void aLowerJoinToTheEndItself(Check check) {
        FloorGraph x = Floors.twoWay(9, 10, 10, 10, 9);
        x.join(2, 1, 3, 1, 3);
        x.join(1, 1, 3, 0, 3);
        x.join(3, 1, 4, 0, 5);
        x.join(0, 1, 1, 0, 3);
        x.join(0, 1, 2, 0, 3);
        check.due("way", x.way(0, 0, 4, 0), 31);
        check.due("join 1 before join 2", Floors.steps(x), "0 1 3 4");
    }

    /** "An end that is reached at second 0 has nothing before it": though a ring leads to it. */
    static void nothingBeforeTheFirstPiece(Check check) {
        FloorGraph x = Floors.twoWay(1, 1, 1, 1);
        x.join(2, 1, 0, 1, 0);
        x.join(0, 1, 1, 0, 0);
        x.join(1, 1, 2, 0, 0);
        x.join(0, 0, 3, 0, 0);
        check.due("way by end 0", x.way(0, 0, 3, 0), 0);
        check.due("steps", Floors.steps(x), "0 3");
        x.way(0, 0, 1, 0);
        check.due("steps by end 1", Floors.steps(x), "0 1");
    }

    /** A piece that is driven there and back is told twice. */
    static void onePieceTwice(Check check) {
        FloorGraph x = Floors.twoWay(1, 10, 20, 5);
        x.join(0, 1, 1, 0, 1);
        x.join(1, 1, 2, 0, 2);
        x.join(2, 1, 1, 1, 3);
        x.join(1, 0, 3, 0, 4);
        x.way(0, 0, 3, 0);
        check.due("steps", Floors.steps(x), "0 1 2 1 3");
    }

    /** "An end that is reached at second 0": at second 1 it has a join before it. */
    static void reachedAtSecondOne(Check check) {
        FloorGraph x = Floors.twoWay(5, 1, 1, 5);
        x.join(0, 1, 1, 0, 0);
        x.join(1, 1, 2, 0, 0);
        x.join(2, 1, 3, 0, 0);
        check.due("way over one", x.way(0, 0, 2, 0), 1);
        check.due("steps over one", Floors.steps(x), "0 1 2");
        check.due("way over two", x.way(0, 0, 3, 0), 2);
        check.due("steps over two", Floors.steps(x), "0 1 2 3");
    }
}
