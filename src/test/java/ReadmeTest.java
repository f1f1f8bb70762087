import java.io.IOException;
import java.nio.file.Files;
import java.nio.file.Path;
import java.util.List;
import java.util.stream.Collectors;

/** README.md: its example is the one that is run here, and it names each call and each test. */
public final class ReadmeTest {
    private static final Path README = Path.of("README.md");
    private static final Path TESTS = Path.of("src/test/java");

    public static void main(String[] args) {
        Check.runAll(ReadmeTest.class);
    }

    /** The example does what its comments say. */
    static void theExampleIsTrue(Check check) {
        // README's example begins here.
        FloorGraph floor = new FloorGraph();

        // The floor: three pieces of level 0 and one of level 1.
        int aisle = floor.piece(0, 10, true);              // level 0, 10 seconds long, two-way
        int ramp = floor.piece(0, 20, false);              // one-way: from end 0 to end 1
        int dock = floor.piece(0, 5, true);
        int attic = floor.piece(1, 8, true);
        int corner = floor.join(aisle, 1, ramp, 0, 3);     // the aisle's end 1, the ramp's end 0
        floor.join(ramp, 1, dock, 0, 2);
        floor.lift(dock, attic, 30);                       // always between ends 1

        // A robot and its ways.
        int robot = floor.robot(60);                       // 60 wide; pieces are 100 wide at first
        int there = floor.way(robot, aisle, dock, 8);      // in hour 8: 3 + 20 + 2 = 25 seconds
        int second = floor.step(1);                        // the second piece of this way: the ramp
        int back = floor.way(robot, dock, aisle, 8);       // -1: the ramp is one-way
        boolean same = floor.same(robot, aisle, dock, 8);  // false: 25 there, none back
        int ways = floor.plain(robot, aisle, attic, 8, 2); // 1 way with at most 2 pieces between

        // Chargers: the dock has number 0 in the table, the aisle number 1.
        floor.charger(dock);
        floor.charger(aisle);
        int nearest = floor.nearest(robot, ramp, 8);       // the dock
        int kept = floor.table(1, 0);                      // robot 0 in hour 12: 25 seconds
        int again = floor.table(1, 0);                     // 25, and the row is not worked anew
        int rows = floor.rows();                           // 1 row was worked so far

        // Changes.
        int hours = floor.zone(ramp, 12, true);            // people on the ramp in 1 hour of the day
        int none = floor.table(1, 0);                      // -1: no way in hour 12; worked anew
        int directions = floor.turn(corner, 0, true);      // the corner is barred in 1 direction
        int shut = floor.closed(attic, true);              // 1 piece is closed
        floor.width(dock, 50);                             // too narrow for the robot now
        int barred = floor.count(4);                       // 1 direction of all joins is barred
        // README's example ends here.

        check.due("there", there, 25);
        check.due("second", second, ramp);
        check.due("back", back, -1);
        check.due("same", same, false);
        check.due("ways", ways, 1);
        check.due("nearest", nearest, dock);
        check.due("kept", kept, 25);
        check.due("again", again, 25);
        check.due("rows", rows, 1);
        check.due("hours", hours, 1);
        check.due("none", none, -1);
        check.due("rows worked anew", floor.rows(), 2);
        check.due("directions", directions, 1);
        check.due("shut", shut, 1);
        check.due("onto the narrow dock", floor.way(robot, ramp, dock, 8), -1);
        check.due("barred", barred, 1);
    }

    /** The example that is told is the one that was run. */
    static void theExampleIsThisOne(Check check) throws IOException {
        String told = between(README, "```java", "```");
        String run = between(TESTS.resolve("ReadmeTest.java"),
                "        // README's example begins here.", "        // README's example ends here.");
        check.due("README's example", told, run.indent(-8).strip());
    }

    private static String between(Path file, String first, String last) throws IOException {
        List<String> lines = Files.readAllLines(file);
        int begin = lines.indexOf(first) + 1;
        int length = lines.subList(begin, lines.size()).indexOf(last);
        return lines.subList(begin, begin + length).stream().collect(Collectors.joining("\n"));
    }

    /** "how to use the class": each call of the face has its row. */
    static void everyCallIsTold(Check check) throws IOException {
        String readme = Files.readString(README);
        for (var method : FloorGraph.class.getMethods()) {
            if (method.getDeclaringClass() == FloorGraph.class) {
                String row = "| `" + method.getName() + "(";
                check.due(row + " is told", readme.contains(row), true);
            }
        }
    }

    /** "how to run its tests": each of them is named. */
    static void everyTestIsTold(Check check) throws IOException {
        String readme = Files.readString(README);
        check.due(".ci/run is told", readme.contains("    .ci/run\n"), true);
        try (var files = Files.list(TESTS)) {
            for (Path file : files.toList()) {
                String name = file.getFileName().toString().replace(".java", "");
                String told = name.matches("Promise\\d\\d.*") ? "PromiseNN...Test" : name;
                check.due(name + " is told", readme.contains("`" + told + "`"), true);
            }
        }
    }
}
