import java.util.ArrayList;
import java.util.List;

/** The sentences of the document's "Terms" that name ends and ranges, each with runs of its own. */
public final class TermsTest {
    private static final String RANGE = " = throws.IllegalArgumentException";
    private static final String STATE = " = throws.IllegalStateException";
    private static final String NO_ROOM = " = throws.UnsupportedOperationException";

    public static void main(String[] args) {
        calls();
        times();
        skills();
        zonesAndWays();
        persons();
        hours();
        breaks();
        breakBetweenTasks();
        tasks();
        maySentence();
        firstTask();
        laterTasks();
        endOfHours();
        lateness();
        exactForSoMany();
        exactOfAllTogether();
        exactTies();
        exactTiesOfStarts();
        exactTiesOfFew();
        onePersonEach();
        byRule();
        byRuleTies();
        Calls.end();
    }

    private static void calls() {
        List<String> rows = new ArrayList<>(List.of("person(1, 0, 100000, 0) = 0", "task(0, 5, 0, 0) = 0"));
        for (int time = 0; time < 254; time++) {
            rows.add("pass(" + time + ") = ok");
            rows.add("assign(5) = " + (time + 5));
        }
        rows.addAll(List.of("give(0) = 0", "told(0, 2) = 253"));
        Calls.due("rows", String.valueOf(rows.size()), String.valueOf(Calls.MOST_OF_ONE_OBJECT));
        Calls.run("An object is used for at most 512 calls", rows.toArray(new String[0]));
    }

    private static void times() {
        Calls.run("NOW is 0 at first and goes on",
                "count(6) = 0", "pass(0) = ok", "count(6) = 0", "pass(1) = ok", "count(6) = 1", "pass(0)" + RANGE,
                "count(6) = 1", "assign(5) = 0", "count(6) = 1");
        Calls.run("TIME is 0 .. 100000",
                "pass(100001)" + RANGE, "pass(-1)" + RANGE, "count(6) = 0", "pass(100000) = ok", "count(6) = 100000");
    }

    private static void skills() {
        for (int held = 0; held < 8; held++) {
            for (int needed = 0; needed < 8; needed++) {
                boolean may = held == needed;
                Calls.run("SKILLS are 0 .. 7, held " + held + ", needed " + needed,
                        "person(" + (1 << held) + ", 0, 10, 0) = 0", "task(" + needed + ", 1, 1, 0) = 0",
                        "bar(0, 0) = " + (may ? 0 : 2), "assign(1) = " + (may ? 0 : 100000),
                        "assign(0) = " + (may ? 0 : 100000), "bound() = " + (may ? 0 : 100000),
                        "person(" + (255 - (1 << held)) + ", 0, 10, 0) = 1", "bar(1, 0) = " + (may ? 2 : 0));
            }
        }
    }

    /** Each way, told in each direction, against each pair of zones. */
    private static void zonesAndWays() {
        for (int zone = 0; zone < 4; zone++) {
            for (int other = 0; other < 4; other++) {
                for (int from = 0; from < 4; from++) {
                    for (int to = 0; to < 4 && zone != other; to++) {
                        boolean same = from == zone && to == other || from == other && to == zone;
                        walk(zone, other, from, to, same);
                    }
                }
            }
        }
    }

    private static void walk(int zone, int other, int from, int to, boolean same) {
        Calls.run("WAY between " + zone + " and " + other + ", walked from " + from + " to " + to,
                "person(1, 0, 2000, " + from + ") = 0", "task(0, 1, 0, " + to + ") = 0", "assign(1) = 1", "bound() = 1",
                "way(" + zone + ", " + other + ", 1000) = ok", "assign(1) = " + (same ? 1001 : 1),
                "told(0, 2) = " + (same ? 1000 : 0), "bound() = " + (same ? 1001 : 1),
                "way(" + other + ", " + zone + ", 1) = ok", "assign(0) = " + (same ? 2 : 1),
                "way(" + zone + ", " + other + ", 0) = ok", "assign(1) = 1");
    }

    private static void persons() {
        Calls.run("PERSONS 0, 1, .. (at most 4)",
                "count(0) = 0", "person(1, 0, 9, 0) = 0", "count(0) = 1", "person(1, 0, 9, 0) = 1",
                "person(1, 0, 9, 0) = 2", "person(1, 0, 9, 0) = 3", "count(0) = 4", "person(1, 0, 9, 0)" + NO_ROOM,
                "count(0) = 4", "known(3, 0) = 1", "leaves(0) = 0", "count(0) = 4", "person(1, 0, 9, 0)" + NO_ROOM);
        Calls.run("they are HERE or GONE",
                "person(1, 0, 9, 0) = 0", "known(0, 0) = 1", "leaves(0) = 0", "known(0, 0) = 0", "pass(9) = ok",
                "known(0, 0) = 0");
        Calls.run("at most one task of theirs is BEGUN",
                "person(1, 0, 9, 0) = 0", "task(0, 1, 0, 0) = 0", "task(0, 1, 0, 0) = 1", "assign(5) = 3", "give(0) = 0",
                "pass(1) = ok", "give(0)" + STATE, "count(3) = 1", "done(0) = 1", "give(0) = 1", "count(3) = 1");
    }

    private static void hours() {
        Calls.run("hours from a time to a later one: one second, at the first time",
                "person(1, 0, 0, 0)" + RANGE, "person(1, 0, 1, 0) = 0", "task(0, 1, 0, 0) = 0", "task(0, 2, 0, 0) = 1",
                "bar(0, 0) = 0", "bar(0, 1) = 4", "assign(5) = 100001", "give(0) = 0", "pass(1) = ok", "done(0) = 1");
        Calls.run("hours from a time to a later one: one second, at the last time",
                "person(1, 100000, 100000, 0)" + RANGE, "person(1, 99999, 100000, 0) = 0", "task(0, 1, 100000, 0) = 0",
                "task(0, 2, 100000, 0) = 1", "bar(0, 0) = 0", "bar(0, 1) = 4", "assign(5) = 100000", "told(0, 2) = 99999",
                "pass(99999) = ok", "give(0) = 0", "pass(100000) = ok", "done(0) = 1", "give(0)" + STATE);
        Calls.run("hours from a time to a later one: all the time",
                "person(1, 0, 100000, 0) = 0", "task(0, 5000, 0, 0) = 0", "pass(95000) = ok", "bar(0, 0) = 0",
                "bound() = 100000", "assign(5) = 100000", "told(0, 1) = 0", "told(0, 2) = 95000", "pass(95001) = ok",
                "bar(0, 0) = 4", "assign(5) = 100000", "told(0, 1) = -1");
    }

    /** Hours from 0 to 100 and a break from 20 to 30: where a task of so many seconds begins that could at ready. */
    private static void breaks() {
        int[][] rows = {
            {1, 0, 0}, {20, 0, 0}, {21, 0, 30}, {1, 19, 19}, {2, 19, 30}, {2, 18, 18}, {1, 20, 30}, {1, 25, 30},
            {1, 29, 30}, {1, 30, 30}, {1, 31, 31}, {31, 0, 30}, {70, 0, 30}, {71, 0, -1}, {70, 30, 30}, {70, 31, -1},
            {69, 31, 31}, {1, 99, 99}, {1, 100, -1},
        };
        for (int[] row : rows) {
            begins("rest(0, 20, 30) = ok", "pass(" + row[1] + ") = ok", row);
            begins("rest(0, 20, 30) = ok", "way(1, 0, " + row[1] + ") = ok", row);
        }
        int[][] without = {{20, 0, 0}, {21, 0, 0}, {100, 0, 0}, {101, 0, -1}, {10, 20, 20}, {1, 25, 25}, {1, 99, 99}};
        for (int[] row : without) {
            begins("count(6) = 0", "pass(" + row[1] + ") = ok", row);
            begins("rest(0, 20, 20) = ok", "pass(" + row[1] + ") = ok", row);
        }
        int[][] atTheBeginning = {{1, 0, 10}, {1, 9, 10}, {90, 0, 10}, {91, 0, -1}};
        for (int[] row : atTheBeginning) {
            begins("rest(0, 0, 10) = ok", "pass(" + row[1] + ") = ok", row);
        }
        int[][] atTheEnd = {{90, 0, 0}, {91, 0, -1}, {1, 89, 89}, {1, 90, -1}};
        for (int[] row : atTheEnd) {
            begins("rest(0, 90, 100) = ok", "pass(" + row[1] + ") = ok", row);
        }
        begins("rest(0, 0, 100) = ok", "pass(0) = ok", new int[] {1, 0, -1});
        begins("rest(0, 0, 99) = ok", "pass(0) = ok", new int[] {1, 0, 99});
        begins("rest(0, 1, 100) = ok", "pass(0) = ok", new int[] {1, 0, 0});
    }

    private static void begins(String rest, String ready, int[] row) {
        boolean can = row[2] != -1;
        int late = can ? row[2] + row[0] : 100000;
        Calls.run("begin before the break's end and end behind its beginning: " + rest + ", " + ready,
                "person(1, 0, 100, 0) = 0", rest, ready, "task(0, " + row[0] + ", 0, 1) = 0",
                "bar(0, 0) = " + (can ? 0 : 4), "bound() = " + late, "assign(1) = " + late, "told(0, 2) = " + row[2],
                "told(0, 1) = " + (can ? 0 : -1), "assign(0) = " + late, "told(0, 2) = " + row[2],
                "told(0, 1) = " + (can ? 0 : -1));
    }

    private static void breakBetweenTasks() {
        Calls.run("a BREAK, none at first",
                "person(1, 0, 100, 0) = 0", "task(0, 100, 100, 0) = 0", "assign(5) = 0", "told(0, 2) = 0",
                "rest(0, 0, 100) = ok", "assign(5) = 100000", "rest(0, 100, 100) = ok", "assign(5) = 0",
                "rest(0, 0, 1) = ok", "bar(0, 0) = 4", "rest(0, 0, 0) = ok", "bar(0, 0) = 0");
        Calls.run("the second task begins at the break's end, the third one behind it, or before it",
                "person(1, 0, 100, 0) = 0", "rest(0, 20, 30) = ok", "task(0, 10, 10, 0) = 0", "task(0, 11, 41, 0) = 1",
                "task(0, 5, 46, 0) = 2", "assign(2) = 0", "told(0, 2) = 0", "told(1, 2) = 30", "told(2, 2) = 41",
                "assign(3) = 0", "told(0, 2) = 0", "told(1, 2) = 30", "told(2, 2) = 10");
        Calls.run("a way may be walked in the break, and is not walked again behind it",
                "person(1, 0, 100, 0) = 0", "rest(0, 20, 30) = ok", "way(0, 1, 8) = ok", "task(0, 20, 20, 0) = 0",
                "task(0, 5, 35, 1) = 1", "assign(0) = 0", "told(0, 2) = 0", "told(1, 2) = 30", "way(0, 1, 11) = ok",
                "assign(5) = 1", "told(1, 2) = 31");
        Calls.run("the task begun ends in the break",
                "person(1, 0, 100, 0) = 0", "task(0, 25, 25, 0) = 0", "task(0, 5, 35, 0) = 1", "assign(5) = 0",
                "give(0) = 0", "rest(0, 20, 30) = ok", "assign(5) = 0", "told(1, 2) = 30", "rest(0, 20, 25) = ok",
                "assign(0) = 0", "told(1, 2) = 25", "rest(0, 24, 26) = ok", "assign(0) = 0", "told(1, 2) = 26");
    }

    private static void tasks() {
        List<String> rows = new ArrayList<>(List.of("count(1) = 0"));
        for (int task = 0; task < 16; task++) {
            rows.add("told(" + task + ", 0) = throws.NoSuchElementException");
            rows.add("task(" + task % 8 + ", " + (task + 1) + ", " + 10 * task + ", " + task % 4 + ") = " + task);
            rows.add("count(1) = " + (task + 1));
        }
        rows.addAll(List.of("task(0, 1, 0, 0)" + NO_ROOM, "count(1) = 16", "count(2) = 16", "told(15, 3) = 7",
                "told(15, 4) = 16", "told(15, 5) = 150", "told(15, 6) = 3", "told(16, 0) = throws.NoSuchElementException",
                "told(0, 4) = 1"));
        Calls.run("TASKS 0, 1, .. (at most 16)", rows.toArray(new String[0]));
        Calls.run("they take 1 .. 5000 seconds",
                "person(1, 0, 5000, 0) = 0", "task(0, 0, 0, 0)" + RANGE, "task(0, 5001, 0, 0)" + RANGE, "count(1) = 0",
                "task(0, 5000, 5000, 0) = 0", "assign(5) = 0", "give(0) = 0", "pass(4999) = ok", "done(0)" + STATE,
                "pass(5000) = ok", "done(0) = 1");
        Calls.run("they are 0 OPEN, 1 BEGUN, 2 DONE",
                "person(1, 0, 9, 0) = 0", "task(0, 1, 1, 0) = 0", "told(0, 0) = 0", "assign(5) = 0", "told(0, 0) = 0",
                "give(0) = 0", "told(0, 0) = 1", "pass(1) = ok", "told(0, 0) = 1", "done(0) = 1", "told(0, 0) = 2",
                "leaves(0) = 0", "told(0, 0) = 2");
    }

    private static void maySentence() {
        for (String most : new String[] {"5", "0"}) {
            Calls.run("MAY: they are here",
                    "person(1, 0, 9, 0) = 0", "task(0, 1, 1, 0) = 0", "leaves(0) = 0", "assign(" + most + ") = 100000",
                    "bound() = 100000", "told(0, 1) = -1");
            Calls.run("MAY: have the skill",
                    "person(254, 0, 9, 0) = 0", "task(0, 1, 1, 0) = 0", "assign(" + most + ") = 100000",
                    "bound() = 100000", "train(0, 0) = 8", "bound() = 0", "assign(" + most + ") = 0");
            Calls.run("MAY: did not REFUSE it",
                    "person(1, 0, 9, 0) = 0", "task(0, 1, 1, 0) = 0", "task(0, 1, 2, 0) = 1", "refuse(0, 0) = false",
                    "assign(" + most + ") = 100000", "bound() = 100000", "told(0, 1) = -1", "told(1, 1) = 0");
        }
    }

    private static void firstTask() {
        for (String most : new String[] {"5", "0"}) {
            String assign = "assign(" + most + ") = ";
            Calls.run("the first one begins no earlier than now, than the hours begin",
                    "person(1, 10, 100, 0) = 0", "task(0, 5, 15, 0) = 0", assign + "0", "told(0, 2) = 10", "pass(9) = ok",
                    assign + "0", "told(0, 2) = 10", "pass(10) = ok", assign + "0", "told(0, 2) = 10", "pass(11) = ok",
                    assign + "1", "told(0, 2) = 11");
            Calls.run("than the end of the task that they have begun",
                    "person(1, 0, 100, 0) = 0", "task(0, 10, 10, 0) = 0", assign + "0", "pass(2) = ok", "give(0) = 0",
                    "task(0, 5, 17, 0) = 1", assign + "0", "told(1, 2) = 12", "pass(11) = ok", assign + "0",
                    "told(1, 2) = 12", "pass(12) = ok", assign + "0", "told(1, 2) = 12", "pass(13) = ok", assign + "1",
                    "told(1, 2) = 13", "done(0) = 1", assign + "1", "told(1, 2) = 13");
            Calls.run("the way is walked behind now, the hours' beginning and the task begun",
                    "person(1, 10, 100, 0) = 0", "way(0, 1, 3) = ok", "way(1, 2, 4) = ok", "way(0, 2, 50) = ok",
                    "task(0, 5, 18, 1) = 0", assign + "0", "told(0, 2) = 13", "pass(12) = ok", assign + "2",
                    "told(0, 2) = 15", "pass(15) = ok", "give(0) = 0", "task(0, 5, 29, 2) = 1", assign + "0",
                    "told(1, 2) = 24", "pass(20) = ok", "done(0) = 1", assign + "0", "told(1, 2) = 24", "pass(21) = ok",
                    assign + "1", "told(1, 2) = 25");
        }
    }

    private static void laterTasks() {
        for (String most : new String[] {"5", "0"}) {
            Calls.run("each later one begins no earlier than the end of the one before, and the way",
                    "person(1, 0, 100, 3) = 0", "way(1, 2, 7) = ok", "way(1, 3, 1) = ok", "task(0, 4, 5, 1) = 0",
                    "task(0, 6, 11, 1) = 1", "task(0, 2, 20, 2) = 2", "task(0, 2, 29, 1) = 3", "assign(" + most + ") = 0",
                    "told(0, 2) = 1", "told(1, 2) = 5", "told(2, 2) = 18", "told(3, 2) = 27", "order(0, 0) = 0",
                    "order(0, 1) = 1", "order(0, 2) = 2", "order(0, 3) = 3", "order(0, 4) = -1");
            Calls.run("before each the way from the zone of the one before is walked: five of them",
                    "person(1, 0, 100, 0) = 0", "way(0, 1, 1) = ok", "way(1, 2, 2) = ok", "way(2, 3, 3) = ok",
                    "way(3, 0, 4) = ok", "way(0, 2, 9) = ok", "way(1, 3, 9) = ok", "task(0, 1, 2, 1) = 0",
                    "task(0, 1, 5, 2) = 1", "task(0, 1, 9, 3) = 2", "task(0, 1, 14, 0) = 3", "task(0, 1, 16, 1) = 4",
                    "assign(" + most + ") = 0", "told(0, 2) = 1", "told(1, 2) = 4", "told(2, 2) = 8", "told(3, 2) = 13",
                    "told(4, 2) = 15");
        }
    }

    private static void endOfHours() {
        for (String most : new String[] {"5", "0"}) {
            Calls.run("No task may end behind the hours: the only one",
                    "person(1, 0, 20, 0) = 0", "task(0, 20, 20, 0) = 0", "assign(" + most + ") = 0", "bar(0, 0) = 0",
                    "way(0, 1, 1) = ok", "task(0, 20, 20, 1) = 1", "bar(0, 1) = 4", "pass(1) = ok", "bar(0, 0) = 4",
                    "assign(" + most + ") = 200000", "told(0, 1) = -1");
            Calls.run("No task may end behind the hours: the last one",
                    "person(1, 0, 20, 0) = 0", "task(0, 12, 13, 0) = 0", "task(0, 8, 20, 0) = 1",
                    "assign(" + most + ") = 0", "told(1, 2) = 12", "pass(1) = ok", "assign(" + most + ") = 100000",
                    "told(0, 1) = 0", "told(1, 1) = -1");
            Calls.run("No task may end behind the hours: behind the task begun",
                    "person(1, 0, 20, 0) = 0", "task(0, 12, 12, 0) = 0", "assign(" + most + ") = 0", "give(0) = 0",
                    "task(0, 9, 20, 0) = 1", "task(0, 8, 20, 0) = 2", "assign(" + most + ") = 100000", "told(1, 1) = -1",
                    "told(2, 2) = 12");
        }
    }

    private static void lateness() {
        int[][] dueAndLate = {{0, 10}, {9, 1}, {10, 0}, {11, 0}, {100000, 0}};
        for (int[] row : dueAndLate) {
            Calls.run("LATENESS: the end less the due, 0 if that is below 0",
                    "person(1, 0, 100, 0) = 0", "task(0, 10, " + row[0] + ", 0) = 0", "count(7) = 100000",
                    "assign(5) = " + row[1], "count(7) = " + row[1], "bound() = " + row[1], "assign(0) = " + row[1],
                    "pass(90) = ok", "count(7) = " + row[1], "pass(91) = ok", "bound() = 100000", "assign(5) = 100000");
        }
        Calls.run("LATENESS: 100000 for one that has nothing",
                "task(0, 1, 100000, 0) = 0", "count(7) = 100000", "bound() = 100000", "assign(5) = 100000",
                "assign(0) = 100000", "task(0, 1, 0, 0) = 1", "count(7) = 200000", "bound() = 200000", "assign(5) = 200000");
    }

    /** The rule plans the long task first (for it is due first), which is ten later than the other way round. */
    private static void exactForSoMany() {
        for (int open = 0; open <= 6; open++) {
            for (int most = 0; most <= 5; most++) {
                boolean exact = open <= most;
                List<String> rows = new ArrayList<>(List.of("person(1, 0, 100, 0) = 0"));
                for (int task = 0; task < open; task++) {
                    int seconds = task == 0 ? 11 : 1;
                    rows.add("task(0, " + seconds + ", " + (task == 0 ? 0 : 1) + ", 0) = " + task);
                }
                rows.add("assign(" + most + ") = " + (exact ? leastLateness(open) : latenessByRule(open)));
                rows.add("exact() = " + exact);
                Calls.run("EXACT, for at most " + most + " open tasks, of " + open, rows.toArray(new String[0]));
            }
        }
    }

    /** The short ones end at 1, 2, .. and the long one behind them. */
    private static int leastLateness(int open) {
        int late = open == 0 ? 0 : open - 1 + 11;
        for (int end = 1; end < open; end++) {
            late += end - 1;
        }
        return late;
    }

    /** The long one ends at 11, the short ones at 12, 13, .. */
    private static int latenessByRule(int open) {
        int late = 11;
        for (int i = 1; i < open; i++) {
            late += 11 + i - 1;
        }
        return late;
    }

    /** Task 0 first would be best for tasks 0 and 1 alone, but task 2 is far from where task 1 ends. */
    private static void exactOfAllTogether() {
        Calls.run("EXACT: the least lateness of all together, not of the first ones",
                "person(1, 0, 2000, 0) = 0", "way(1, 2, 5) = ok", "way(2, 3, 1000) = ok", "way(0, 3, 1000) = ok",
                "task(0, 10, 10, 1) = 0", "task(0, 10, 25, 2) = 1", "assign(5) = 0", "told(0, 2) = 0", "told(1, 2) = 15",
                "task(0, 10, 35, 3) = 2", "assign(5) = 15", "told(1, 2) = 0", "told(0, 2) = 15", "told(2, 2) = 25");
    }

    /** One short task has room before the break; the long ones come behind it in either case. */
    private static void exactTiesOfStarts() {
        for (int shortOne = 0; shortOne < 5; shortOne++) {
            List<String> rows = new ArrayList<>(List.of("person(1, 0, 100, 0) = 0", "rest(0, 10, 20) = ok"));
            for (int task = 0; task < 5; task++) {
                rows.add("task(0, " + (task == shortOne ? 1 : 11) + ", 100, 0) = " + task);
            }
            rows.add("assign(5) = 0");
            for (int task = 0; task < 5; task++) {
                int longBefore = task < shortOne ? task : task - 1;
                rows.add("told(" + task + ", 2) = " + (task == shortOne ? 0 : 20 + 11 * longBefore));
            }
            Calls.run("of such ones by the starts of tasks: that of task " + shortOne + " too", rows.toArray(new String[0]));
        }
    }

    private static void exactTies() {
        Calls.run("first by the persons of tasks: the lowest person first",
                "person(1, 0, 100, 0) = 0", "person(1, 0, 100, 0) = 1", "task(0, 5, 5, 0) = 0", "task(0, 5, 5, 0) = 1",
                "task(0, 5, 10, 0) = 2", "task(0, 5, 10, 0) = 3", "assign(5) = 0", "told(0, 1) = 0", "told(1, 1) = 1",
                "told(2, 1) = 0", "told(3, 1) = 1");
        Calls.run("first by the persons of tasks: the lowest task's person before all",
                "person(1, 0, 10, 0) = 0", "person(3, 0, 10, 0) = 1", "task(0, 10, 10, 0) = 0", "task(0, 10, 10, 0) = 1",
                "task(1, 10, 10, 0) = 2", "assign(5) = 100000", "told(0, 1) = 0", "told(1, 1) = 1", "told(2, 1) = -1");
        Calls.run("first by the persons of tasks: the lowest one for a later task too, though an earlier one has a higher",
                "person(0, 0, 100, 0) = 0", "person(2, 0, 100, 0) = 1", "person(3, 0, 100, 0) = 2",
                "person(3, 0, 100, 0) = 3", "task(0, 5, 50, 0) = 0", "task(1, 5, 50, 0) = 1", "task(0, 5, 50, 0) = 2",
                "assign(5) = 0", "told(0, 1) = 2", "told(1, 1) = 1", "told(2, 1) = 2");
        Calls.run("first by the persons of tasks: nothing behind all",
                "person(0, 0, 100000, 0) = 0", "person(0, 0, 100000, 0) = 1", "person(0, 0, 100000, 0) = 2",
                "person(1, 0, 100000, 0) = 3", "pass(99999) = ok", "task(0, 1, 0, 0) = 0", "task(0, 1, 0, 0) = 1",
                "assign(5) = 200000", "told(0, 1) = 3", "told(0, 2) = 99999", "told(1, 1) = -1", "told(1, 2) = -1");
        Calls.run("of such ones by the starts of tasks, the lesser first",
                "person(1, 0, 100, 0) = 0", "task(0, 9, 90, 0) = 0", "task(0, 2, 90, 0) = 1", "task(0, 5, 90, 0) = 2",
                "assign(5) = 0", "told(0, 2) = 0", "told(1, 2) = 9", "told(2, 2) = 11");
        Calls.run("of such ones by the starts of tasks, the second one's too",
                "person(1, 0, 100, 0) = 0", "task(0, 9, 9, 0) = 0", "task(0, 5, 90, 0) = 1", "task(0, 2, 90, 0) = 2",
                "assign(5) = 0", "told(0, 2) = 0", "told(1, 2) = 9", "told(2, 2) = 14");
    }

    /**
     * Person 0 does either the first of the tasks that can be done, and all the later ones have nothing, or the
     * later ones, and person 1 does the first just so much later that both plans are equally late.
     */
    private static void exactTiesOfFew() {
        for (int later = 1; later <= 4; later++) {
            int first = 4 - later;
            int ends = 99000 + later * (later - 1) / 2;
            List<String> rows = new ArrayList<>(List.of("person(3, " + (99000 - later) + ", 100000, 0) = 0",
                    "person(1, " + (ends - later) + ", " + ends + ", 1) = 1", "way(0, 2, 1000) = ok", "way(1, 2, 1000) = ok"));
            for (int task = 0; task < first; task++) {
                rows.add("task(7, 1, 0, 0) = " + task);
            }
            rows.add("task(0, " + later + ", 0, 1) = " + first);
            for (int task = first + 1; task < 5; task++) {
                rows.add("task(1, 1, 0, 2) = " + task);
            }
            rows.addAll(List.of("assign(5) = 499000", "told(" + first + ", 1) = 0", "count(5) = 4",
                    "told(4, 1) = -1", "refuse(0, " + first + ") = true", "assign(5) = 499000",
                    "told(" + first + ", 1) = 1", "told(" + (first + 1) + ", 1) = 0"));
            Calls.run("the person of a low task comes before those of " + later + " later ones", rows.toArray(new String[0]));
        }
    }

    /** By way of task 0 persons 0 and 1 would both come sooner to tasks 3 and 2, which they alone can do. */
    private static void onePersonEach() {
        Calls.run("A PLAN gives each open task a person: one, though two would be glad of it",
                "person(3, 0, 2000, 0) = 0", "person(5, 0, 2000, 0) = 1", "person(9, 0, 2000, 0) = 2", "way(0, 1, 1) = ok",
                "way(1, 2, 1) = ok", "way(1, 3, 1) = ok", "way(0, 2, 1000) = ok", "way(0, 3, 1000) = ok",
                "task(0, 1, 2000, 1) = 0", "task(3, 1, 2000, 0) = 1", "task(2, 1, 10, 3) = 2", "task(1, 1, 10, 2) = 3",
                "assign(5) = 991", "told(0, 1) = 0", "told(0, 2) = 1", "told(1, 1) = 2", "told(1, 2) = 0",
                "told(2, 1) = 1", "told(2, 2) = 1000", "told(3, 1) = 0", "told(3, 2) = 3",
                "refuse(0, 0) = true", "assign(5) = 991", "told(0, 1) = 1", "told(2, 2) = 3", "told(3, 2) = 1000");
    }

    private static void byRule() {
        Calls.run("BY RULE: open tasks by due, of equal ones by number",
                "person(1, 0, 100, 0) = 0", "task(0, 1, 9, 0) = 0", "task(0, 2, 8, 0) = 1", "task(0, 3, 9, 0) = 2",
                "task(0, 4, 7, 0) = 3", "task(0, 5, 8, 0) = 4", "task(0, 6, 0, 0) = 5", "assign(5) = 43",
                "order(0, 0) = 5", "order(0, 1) = 3", "order(0, 2) = 1", "order(0, 3) = 4", "order(0, 4) = 0",
                "order(0, 5) = 2", "told(3, 2) = 6", "told(2, 2) = 18");
        Calls.run("BY RULE: it has nothing if nobody can, and a later one may have something",
                "person(1, 0, 10, 0) = 0", "task(0, 11, 0, 0) = 0", "task(0, 7, 1, 0) = 1", "task(0, 4, 2, 0) = 2",
                "task(0, 3, 3, 0) = 3", "assign(0) = 200013", "told(0, 1) = -1", "told(1, 2) = 0", "told(2, 1) = -1",
                "told(3, 2) = 7");
        Calls.run("BY RULE: it has nothing if nobody may",
                "person(2, 0, 10, 0) = 0", "task(0, 1, 0, 0) = 0", "task(1, 1, 1, 0) = 1", "assign(0) = 100000",
                "told(0, 1) = -1", "told(1, 1) = 0");
        Calls.run("BY RULE: nobody there",
                "task(0, 1, 0, 0) = 0", "assign(0) = 100000", "told(0, 1) = -1", "exact() = false");
    }

    private static void byRuleTies() {
        Calls.run("to the one for whom it ends first, though another has fewer",
                "person(3, 0, 100, 0) = 0", "person(1, 6, 100, 0) = 1", "task(1, 5, 0, 0) = 0", "task(0, 5, 9, 0) = 1",
                "assign(0) = 6", "told(0, 1) = 0", "told(1, 1) = 0", "told(1, 2) = 5");
        Calls.run("of equal ones to the one with the fewest tasks: planned so far",
                "person(3, 0, 100, 0) = 0", "person(1, 5, 100, 0) = 1", "task(1, 5, 0, 0) = 0", "task(0, 5, 9, 0) = 1",
                "assign(0) = 6", "told(0, 1) = 0", "told(1, 1) = 1", "told(1, 2) = 5");
        Calls.run("of equal ones to the one with the fewest tasks: done",
                "person(3, 0, 100, 0) = 0", "person(1, 0, 100, 0) = 1", "task(1, 5, 5, 0) = 0", "assign(0) = 0",
                "give(0) = 0", "pass(5) = ok", "done(0) = 1", "task(0, 5, 10, 0) = 1", "assign(0) = 0", "told(1, 1) = 1");
        Calls.run("of equal ones to the one with the fewest tasks: begun",
                "person(3, 0, 100, 0) = 0", "person(1, 0, 100, 0) = 1", "task(1, 5, 5, 0) = 0", "assign(0) = 0",
                "give(0) = 0", "pass(5) = ok", "task(0, 5, 10, 0) = 1", "assign(0) = 0", "told(1, 1) = 1");
        byRuleEqualTasks();
        Calls.run("then to the lowest",
                "person(2, 0, 100, 0) = 0", "person(1, 0, 100, 0) = 1", "person(1, 0, 100, 0) = 2",
                "person(1, 0, 100, 0) = 3", "task(0, 5, 5, 0) = 0", "task(0, 5, 5, 0) = 1", "task(0, 5, 5, 0) = 2",
                "task(0, 5, 10, 0) = 3", "assign(0) = 0", "told(0, 1) = 1", "told(1, 1) = 2", "told(2, 1) = 3",
                "told(3, 1) = 1", "told(3, 2) = 5");
        Calls.run("tasks that had been planned before do not count",
                "person(3, 0, 100, 0) = 0", "person(1, 0, 100, 0) = 1", "task(1, 5, 90, 0) = 0", "assign(0) = 0",
                "told(0, 1) = 0", "task(0, 5, 80, 0) = 1", "assign(0) = 0", "told(1, 1) = 0", "told(0, 2) = 5");
    }

    /** One has a task begun or done and the other one planned so far, both can begin the next one at 10. */
    private static void byRuleEqualTasks() {
        for (int busy = 0; busy < 2; busy++) {
            int other = 1 - busy;
            String first = "person(" + (busy == 0 ? 3 : 5) + ", 0, 100, 0) = 0";
            String second = "person(" + (busy == 0 ? 5 : 3) + ", 0, 100, 0) = 1";
            Calls.run("of equal ones: a task begun counts as much as one planned",
                    first, second, "task(1, 10, 10, 0) = 0", "assign(0) = 0", "give(" + busy + ") = 0",
                    "task(2, 10, 10, 0) = 1", "task(0, 5, 15, 0) = 2", "assign(0) = 0", "told(1, 1) = " + other,
                    "told(2, 1) = 0", "told(2, 2) = 10");
            Calls.run("of equal ones: a task done counts as much as one planned",
                    first, second, "task(1, 5, 5, 0) = 0", "assign(0) = 0", "give(" + busy + ") = 0",
                    "pass(5) = ok", "done(" + busy + ") = 1", "rest(" + busy + ", 5, 10) = ok", "task(2, 5, 10, 0) = 1",
                    "task(0, 5, 15, 0) = 2", "assign(0) = 0", "told(1, 1) = " + other, "told(2, 1) = 0", "told(2, 2) = 10");
        }
    }
}
