/** Promise 18, count: five things that are counted, and -1 for another. */
public final class Promise18CountTest {
    public static void main(String[] args) {
        Check.runAll(Promise18CountTest.class);
    }

    /** "-1 for another what". */
    static void whatTooSmall(Check check) {
        FloorGraph x = Floors.yard();
        check.due("count(-1)", x.count(-1), -1);
        check.due("count(least)", x.count(Floors.LOW), -1);
    }

    /** "-1 for another what". */
    static void whatTooLarge(Check check) {
        FloorGraph x = Floors.yard();
        check.due("count(5)", x.count(5), -1);
        check.due("count(greatest)", x.count(Floors.HIGH), -1);
    }

    /** "-1 for another what": on an empty floor too. */
    static void anotherWhatOfNothing(Check check) {
        FloorGraph x = new FloorGraph();
        check.due("count(-1)", x.count(-1), -1);
        check.due("count(5)", x.count(5), -1);
    }

    static void everyWhat(Check check) {
        FloorGraph x = Floors.yard();
        check.due("pieces", x.count(0), 5);
        check.due("joins", x.count(1), 3);
        check.due("robots", x.count(2), 2);
        check.due("chargers", x.count(3), 2);
        check.due("directions that are barred", x.count(4), 1);
    }

    /** Each is full: "at most 20", "at most 40", "at most 6", "there are eight". */
    static void everyWhatIsFull(Check check) {
        check.due("pieces", Floors.fullOfPieces().count(0), 20);
        check.due("joins", Floors.fullOfJoins().count(1), 40);
        check.due("robots", Floors.fullOfRobots().count(2), 6);
        check.due("chargers", Floors.fullOfChargers().count(3), 8);
    }

    /** "directions that are barred": both of all forty joins, and none again. */
    static void everyDirectionIsBarred(Check check) {
        FloorGraph x = Floors.fullOfJoins();
        for (int join = 0; join < 40; join++) {
            x.turn(join, 0, true);
            check.due("one of join " + join, x.count(4), 2 * join + 1);
            x.turn(join, 1, true);
            check.due("both of join " + join, x.count(4), 2 * join + 2);
        }
        for (int join = 0; join < 40; join++) {
            x.turn(join, 0, false);
            x.turn(join, 1, false);
        }
        check.due("none", x.count(4), 0);
    }

    /** "directions that are barred": told as it was, it is counted once. */
    static void barredAsItWas(Check check) {
        FloorGraph x = Floors.yard();
        x.turn(1, 1, true);
        check.due("barred again", x.count(4), 1);
        x.turn(0, 0, false);
        check.due("another one free as it was", x.count(4), 1);
        x.turn(1, 1, false);
        check.due("freed", x.count(4), 0);
    }
}
