/** Promise 5, turn: a join is barred in direction 0 or 1, in both, or in none. */
public final class Promise05TurnTest {
    public static void main(String[] args) {
        Check.runAll(Promise05TurnTest.class);
    }

    private static FloorGraph pair() {
        FloorGraph x = Floors.twoWay(5, 5);
        x.join(0, 1, 1, 0, 3);
        x.join(1, 1, 0, 0, 8);
        return x;
    }

    static void joinTooSmall(Check check) {
        check.wrongArgument("join -1", x -> x.turn(-1, 0, true));
        check.wrongArgument("least join, twice it is 0", x -> x.turn(Floors.LOW, 0, true));
        check.wrongArgument("one more, twice it is 2", x -> x.turn(Floors.LOW + 1, 0, true));
    }

    static void joinTooLarge(Check check) {
        check.wrongArgument("join 3", x -> x.turn(3, 0, true));
        check.wrongArgument("join 40", x -> x.turn(40, 0, true));
        check.wrongArgument("greatest join", x -> x.turn(Floors.HIGH, 0, true));
    }

    /** No joins at all: not even join 0. */
    static void noJoins(Check check) {
        FloorGraph x = Floors.twoWay(5, 5);
        check.argument("turn(0, 0, true)", () -> x.turn(0, 0, true));
        check.due("count(4)", x.count(4), 0);
    }

    /** Forty joins: the last one can be barred, and there is none behind it. */
    static void fortyJoins(Check check) {
        FloorGraph x = Floors.fullOfJoins();
        check.due("turn(39, 0, true)", x.turn(39, 0, true), 1);
        check.due("turn(39, 1, true)", x.turn(39, 1, true), 2);
        check.argument("turn(40, 0, true)", () -> x.turn(40, 0, true));
        check.due("count(4)", x.count(4), 2);
    }

    static void directionTooSmall(Check check) {
        check.wrongArgument("direction -1", x -> x.turn(0, -1, true));
        check.wrongArgument("direction -1 of join 1", x -> x.turn(1, -1, true));
        check.wrongArgument("least direction", x -> x.turn(0, Floors.LOW, true));
    }

    static void directionTooLarge(Check check) {
        check.wrongArgument("direction 2", x -> x.turn(0, 2, true));
        check.wrongArgument("greatest direction", x -> x.turn(0, Floors.HIGH, true));
    }

    /** "or not": wrong arguments are refused then too. */
    static void wrongThoughNothingIsBarred(Check check) {
        check.wrongArgument("join 3", x -> x.turn(3, 0, false));
        check.wrongArgument("join -1", x -> x.turn(-1, 0, false));
        check.wrongArgument("direction 2", x -> x.turn(0, 2, false));
    }

    /** "in how many it is then": none, one, both, and of this join alone. */
    static void inHowManyItIs(Check check) {
        FloorGraph x = pair();
        x.turn(1, 0, true);
        check.due("none", x.turn(0, 0, false), 0);
        check.due("direction 1", x.turn(0, 1, true), 1);
        check.due("both", x.turn(0, 0, true), 2);
        check.due("direction 0 left", x.turn(0, 1, false), 1);
        check.due("none again", x.turn(0, 0, false), 0);
    }

    /** What is told as it was leaves it as it was. */
    static void asItWas(Check check) {
        FloorGraph x = pair();
        check.due("barred", x.turn(0, 0, true), 1);
        check.due("barred again", x.turn(0, 0, true), 1);
        check.due("count(4)", x.count(4), 1);
        check.due("not barred", x.turn(0, 0, false), 0);
        check.due("not barred again", x.turn(0, 0, false), 0);
        check.due("count(4) then", x.count(4), 0);
    }

    /** "from the first end told to the second: direction 0; back: 1". */
    static void directions(Check check) {
        FloorGraph x = pair();
        x.turn(0, 0, true);
        check.due("0 to 1 by join 1, back", x.way(0, 0, 1, 0), 8);
        check.due("1 to 0 by join 0, back", x.way(0, 1, 0, 0), 3);
        x.turn(1, 0, true);
        check.due("0 to 1 by join 1 still", x.way(0, 0, 1, 0), 8);
        x.turn(0, 1, true);
        check.due("1 to 0 by none", x.way(0, 1, 0, 0), -1);
        x.turn(1, 1, true);
        check.due("0 to 1 by none", x.way(0, 0, 1, 0), -1);
        x.turn(0, 0, false);
        check.due("0 to 1 by join 0 again", x.way(0, 0, 1, 0), 3);
    }

    /** "LIFTS are joins": they are barred as joins are. */
    static void directionsOfALift(Check check) {
        FloorGraph x = Floors.twoWay(5);
        x.piece(1, 5, true);
        x.lift(0, 1, 7);
        check.due("barred up", x.turn(0, 0, true), 1);
        check.due("up", x.way(0, 0, 1, 0), -1);
        check.due("down", x.way(0, 1, 0, 0), 7);
    }
}
