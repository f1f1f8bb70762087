/** Promise 14, nearest: the piece with the charger to which a robot comes first. */
public final class Promise14NearestTest {
    public static void main(String[] args) {
        Check.runAll(Promise14NearestTest.class);
    }

    static void robotTooSmall(Check check) {
        check.wrongArgument("robot -1", x -> x.nearest(-1, 0, 0));
        check.wrongArgument("least robot", x -> x.nearest(Floors.LOW, 0, 0));
    }

    static void robotTooLarge(Check check) {
        check.wrongArgument("robot 2", x -> x.nearest(2, 0, 0));
        check.wrongArgument("robot 6", x -> x.nearest(6, 0, 0));
        check.wrongArgument("greatest robot", x -> x.nearest(Floors.HIGH, 0, 0));
    }

    static void fromTooSmall(Check check) {
        check.wrongArgument("from -1", x -> x.nearest(0, -1, 0));
        check.wrongArgument("least from", x -> x.nearest(0, Floors.LOW, 0));
    }

    static void fromTooLarge(Check check) {
        check.wrongArgument("from 5", x -> x.nearest(0, 5, 0));
        check.wrongArgument("from 20", x -> x.nearest(0, 20, 0));
        check.wrongArgument("greatest from", x -> x.nearest(0, Floors.HIGH, 0));
    }

    static void hourTooSmall(Check check) {
        check.wrongArgument("hour -1", x -> x.nearest(0, 0, -1));
        check.wrongArgument("least hour", x -> x.nearest(0, 0, Floors.LOW));
    }

    static void hourTooLarge(Check check) {
        check.wrongArgument("hour 24", x -> x.nearest(0, 0, 24));
        check.wrongArgument("hour 32", x -> x.nearest(0, 0, 32));
        check.wrongArgument("greatest hour", x -> x.nearest(0, 0, Floors.HIGH));
    }

    /** Without chargers wrong arguments are refused too. */
    static void wrongThoughThereAreNoChargers(Check check) {
        FloorGraph x = Floors.line(2);
        check.argument("robot 1", () -> x.nearest(1, 0, 0));
        check.argument("from 2", () -> x.nearest(0, 2, 0));
        check.argument("hour 24", () -> x.nearest(0, 0, 24));
    }

    /** "-1 if it comes to none": there are none. */
    static void noChargers(Check check) {
        check.due("nearest(0, 0, 0)", Floors.line(3).nearest(0, 0, 0), -1);
    }

    /** "-1 if it comes to none": there are some, and no way. */
    static void noWayToAny(Check check) {
        FloorGraph x = Floors.line(4);
        x.charger(3);
        x.charger(0);
        x.closed(3, true);
        x.closed(0, true);
        check.due("closed ones", x.nearest(0, 1, 0), -1);
        x.closed(3, false);
        x.closed(0, false);
        x.zone(3, 6, true);
        x.zone(0, 6, true);
        check.due("barred ones in hour 6", x.nearest(0, 1, 6), -1);
        check.due("in hour 7", x.nearest(0, 1, 7), 0);
        x.width(0, 49);
        check.due("a narrow one is passed over", x.nearest(0, 1, 7), 3);
    }

    /** It comes at once to the one where it stands, though the piece be closed. */
    static void whereItStands(Check check) {
        FloorGraph x = Floors.line(3);
        x.charger(2);
        x.charger(1);
        check.due("open", x.nearest(0, 2, 0), 2);
        x.closed(2, true);
        check.due("closed", x.nearest(0, 2, 0), 2);
        x.zone(2, 0, true);
        x.width(2, 1);
        check.due("barred and too narrow", x.nearest(0, 2, 0), 2);
    }

    /** "of equal ones the lowest": the lowest piece, though its charger was put later. */
    static void theLowestOfEqualOnes(Check check) {
        FloorGraph x = Floors.line(5);
        x.charger(4);
        x.charger(0);
        check.due("in the middle", x.nearest(0, 2, 0), 0);
        check.due("nearer to 4", x.nearest(0, 3, 0), 4);
        check.due("nearer to 0", x.nearest(0, 1, 0), 0);
    }

    /** "of equal ones the lowest": put in the other order too. */
    static void theLowestOfEqualOnesPutFirst(Check check) {
        FloorGraph x = Floors.line(5);
        x.charger(0);
        x.charger(4);
        check.due("in the middle", x.nearest(0, 2, 0), 0);
    }

    /** "of equal ones the lowest": 0 seconds to a lower one equal 0 seconds where it stands. */
    static void theLowestOfThoseAtOnce(Check check) {
        FloorGraph x = Floors.twoWay(5, 5);
        x.join(1, 0, 0, 0, 0);
        x.charger(1);
        x.charger(0);
        check.due("to a lower one", x.nearest(0, 1, 0), 0);
        check.due("not to a higher one", x.nearest(0, 0, 0), 0);
    }

    /** "comes first": there, not back. */
    static void thereNotBack(Check check) {
        FloorGraph x = Floors.twoWay(5, 5, 5);
        x.join(0, 1, 1, 0, 1);
        x.join(0, 1, 2, 0, 2);
        x.turn(0, 0, true);
        x.charger(1);
        x.charger(2);
        check.due("piece 1 has a way back only", x.nearest(0, 0, 0), 2);
    }

    /** By one second it is another one; eight chargers, the last one put the nearest. */
    static void theNearestOfEight(Check check) {
        FloorGraph x = Floors.fullOfChargers();
        check.due("from 0", x.nearest(0, 0, 0), 2);
        for (int piece = 2; piece <= 9; piece++) {
            check.due("from " + piece, x.nearest(0, piece, 0), piece);
        }
    }

    /** Twenty pieces: a charger at the last one, and none at any. */
    static void twentyPieces(Check check) {
        FloorGraph x = Floors.line(20);
        check.due("no chargers", x.nearest(0, 19, 0), -1);
        x.charger(19);
        check.due("from the first one", x.nearest(0, 0, 0), 19);
        check.due("from the last one", x.nearest(0, 19, 0), 19);
    }
}
