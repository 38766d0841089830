import java.util.ArrayList;
import java.util.List;

/** States that an object may be in, as the calls that lead there. */
final class Scenes {
    static final List<String> NEW = List.of();

    /** Person 0 and task 0 alone, nothing planned; hours from 10 to 50. */
    static final List<String> ONE_OF_EACH = List.of("person(1, 10, 50, 0)", "task(0, 5, 20, 0)");

    /** Four persons and sixteen tasks, planned by rule. */
    static final List<String> FULL = full();

    /** Planned exactly: task 0 for person 0 and task 1 for person 1; now is 0. */
    static final List<String> EXACT = List.of("person(1, 0, 1000, 0)", "person(2, 0, 1000, 1)", "rest(0, 100, 120)",
            "way(0, 1, 10)", "task(0, 10, 5, 1)", "task(1, 20, 5, 0)", "assign(5)");

    /**
     * Planned by rule at 10: task 0 is done, 1 begun by person 1 until 50, 2, 3 and 4 are planned for
     * person 0 and 6 for person 1, 5 has nothing. Person 1 refused task 3; person 2 is gone.
     */
    static final List<String> BUSY = List.of(
            "person(7, 0, 1000, 0)", "person(3, 5, 1000, 1)", "person(1, 0, 1000, 2)", "rest(0, 100, 120)",
            "rest(1, 60, 80)", "way(0, 1, 10)", "way(0, 2, 20)", "way(0, 3, 30)", "way(1, 2, 12)", "way(1, 3, 13)",
            "way(2, 3, 23)", "task(2, 10, 10, 0)", "task(1, 40, 50, 1)", "task(0, 10, 30, 2)", "assign(5)", "give(0)",
            "give(2)", "pass(10)", "done(0)", "give(1)", "leaves(2)", "task(0, 10, 60, 3)", "task(2, 30, 90, 1)",
            "task(3, 10, 90, 0)", "task(0, 50, 500, 2)", "refuse(1, 3)", "assign(4)");

    private Scenes() {
    }

    static List<String> with(List<String> scene, String... more) {
        List<String> longer = new ArrayList<>(scene);
        longer.addAll(List.of(more));
        return longer;
    }

    private static List<String> full() {
        List<String> calls = new ArrayList<>();
        for (int person = 0; person < 4; person++) {
            calls.add("person(" + (15 << person) % 256 + ", " + 10 * person + ", 500, " + person + ")");
        }
        for (int task = 0; task < 16; task++) {
            calls.add("task(" + task % 8 + ", " + (5 + task) + ", " + 7 * task + ", " + task % 4 + ")");
        }
        calls.add("assign(5)");
        return calls;
    }
}
