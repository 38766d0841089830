import java.util.ArrayList;
import java.util.List;

/**
 * The sentences of the promises that name an end: nobody and nothing yet, the last one that there may
 * be, the very second at which something holds. (Ranges: RangeTest; refusals: RefusalTest; plans: TermsTest.)
 */
public final class EdgeTest {
    private static final String NO_SUCH = " = throws.NoSuchElementException";
    private static final String STATE = " = throws.IllegalStateException";

    public static void main(String[] args) {
        newObject();
        person();
        plansStay();
        rest();
        train();
        task();
        way();
        refuse();
        bar();
        barOrder();
        assign();
        exact();
        bound();
        give();
        giveTime();
        done();
        leaves();
        fair();
        pass();
        order();
        told();
        known();
        count();
        Calls.end();
    }

    private static void newObject() {
        Calls.run("1 nobody, nothing; now is 0",
                "count(0) = 0", "count(1) = 0", "count(2) = 0", "count(3) = 0", "count(4) = 0", "count(5) = 0",
                "count(6) = 0", "count(7) = 0", "bound() = 0", "exact() = false", "assign(0) = 0", "count(7) = 0");
        Calls.run("1 nobody",
                "rest(0, 0, 0)" + NO_SUCH, "train(0, 0)" + NO_SUCH, "give(0)" + NO_SUCH, "done(0)" + NO_SUCH,
                "leaves(0)" + NO_SUCH, "fair(0)" + NO_SUCH, "order(0, 0)" + NO_SUCH, "known(0, 0)" + NO_SUCH,
                "task(0, 1, 0, 0) = 0", "refuse(0, 0)" + NO_SUCH, "bar(0, 0)" + NO_SUCH);
        Calls.run("1 nothing",
                "told(0, 0)" + NO_SUCH, "person(1, 0, 9, 0) = 0", "refuse(0, 0)" + NO_SUCH, "bar(0, 0)" + NO_SUCH,
                "order(0, 0) = -1", "fair(0) = 0", "give(0) = -1", "done(0)" + STATE, "assign(5) = 0", "leaves(0) = 0");
        Calls.run("1 objects do not know each other: another one has been used before", "count(0) = 0", "count(1) = 0");
    }

    private static void person() {
        Calls.run("2 their number, here, in a zone",
                "person(0, 0, 1, 3) = 0", "known(0, 0) = 1", "known(0, 1) = 0", "known(0, 2) = 3", "known(0, 3) = -1",
                "known(0, 4) = 0", "known(0, 5) = 0", "person(255, 0, 1, 0) = 1", "known(1, 1) = 255", "known(1, 2) = 0",
                "known(0, 1) = 0", "known(0, 2) = 3");
        Calls.run("2 a person behind one who is gone has a new number",
                "person(1, 0, 9, 0) = 0", "leaves(0) = 0", "person(1, 0, 9, 0) = 1", "known(0, 0) = 0", "known(1, 0) = 1");
        Calls.run("2 a person whose hours are over, or who comes in the midst of a plan",
                "pass(50) = ok", "person(1, 0, 50, 0) = 0", "task(0, 1, 99, 0) = 0", "bar(0, 0) = 4", "assign(5) = 100000",
                "person(1, 0, 51, 0) = 1", "told(0, 1) = -1", "bar(1, 0) = 0", "assign(5) = 0", "told(0, 1) = 1");
    }

    /** What is planned stays so until it is planned anew, refused or given, or its person leaves. */
    private static void plansStay() {
        String[][] calls = {
            {"2 person", "person(255, 0, 100, 0) = 2"}, {"3 rest", "rest(0, 0, 90) = ok"}, {"4 train", "train(1, 0) = 2"},
            {"5 task", "task(0, 1, 0, 0) = 3"}, {"6 way", "way(0, 1, 1000) = ok"}, {"7 refuse", "refuse(1, 0) = false"},
            {"7 refuse", "refuse(0, 2) = false"}, {"12 give", "give(1) = 2"}, {"14 leaves", "leaves(1) = 1"},
            {"16 pass", "pass(100000) = ok"},
        };
        for (String[] call : calls) {
            Calls.run(call[0] + " alters no plan of another",
                    "person(1, 0, 100, 0) = 0", "person(2, 0, 100, 0) = 1", "way(0, 1, 10) = ok", "task(0, 5, 15, 1) = 0",
                    "task(0, 5, 20, 1) = 1", "task(1, 5, 5, 0) = 2", "assign(5) = 0", call[1], "told(0, 0) = 0",
                    "told(0, 1) = 0", "told(0, 2) = 10", "told(1, 0) = 0", "told(1, 1) = 0", "told(1, 2) = 15",
                    "exact() = true", "order(0, 0) = 0", "order(0, 1) = 1", "order(0, 2) = -1", "known(0, 5) = 2");
        }
        Calls.run("12 give and 13 done alter none of the other plans of their own",
                "person(1, 0, 100, 0) = 0", "task(0, 5, 5, 0) = 0", "task(0, 5, 10, 0) = 1", "task(0, 5, 15, 0) = 2",
                "assign(5) = 0", "pass(7) = ok", "give(0) = 0", "told(1, 2) = 5", "told(2, 2) = 10", "pass(30) = ok",
                "done(0) = 1", "told(1, 1) = 0", "told(1, 2) = 5", "told(2, 1) = 0", "told(2, 2) = 10", "count(7) = 0",
                "exact() = true");
    }

    private static void rest() {
        Calls.run("3 instead of another one",
                "person(1, 0, 100, 0) = 0", "rest(0, 10, 20) = ok", "rest(0, 30, 40) = ok", "pass(10) = ok", "give(0) = -1",
                "pass(30) = ok", "give(0)" + STATE, "rest(0, 31, 40) = ok", "give(0) = -1", "pass(31) = ok",
                "give(0)" + STATE);
        Calls.run("3 from equal to to: none",
                "person(1, 10, 100, 0) = 0", "pass(10) = ok", "rest(0, 10, 100) = ok", "give(0)" + STATE,
                "rest(0, 10, 10) = ok", "give(0) = -1", "rest(0, 10, 11) = ok", "give(0)" + STATE, "rest(0, 100, 100) = ok",
                "give(0) = -1", "task(0, 90, 100, 0) = 0", "bar(0, 0) = 0", "rest(0, 50, 50) = ok", "bar(0, 0) = 0",
                "assign(5) = 0", "told(0, 2) = 10");
        Calls.run("3 a break alters no plan by itself",
                "person(1, 0, 100, 0) = 0", "task(0, 10, 10, 0) = 0", "assign(5) = 0", "rest(0, 0, 50) = ok",
                "told(0, 1) = 0", "told(0, 2) = 0", "count(7) = 0", "give(0)" + STATE, "pass(50) = ok", "give(0) = 0");
        Calls.run("3 a person's own break alone",
                "person(1, 0, 100, 0) = 0", "person(1, 0, 100, 0) = 1", "rest(0, 0, 100) = ok", "give(0)" + STATE,
                "give(1) = -1");
    }

    private static void train() {
        List<String> rows = new ArrayList<>(List.of("person(0, 0, 9, 0) = 0"));
        for (int skill = 0; skill < 8; skill++) {
            rows.add("task(" + skill + ", 1, 9, 0) = " + skill);
            rows.add("bar(0, " + skill + ") = 2");
            rows.add("train(0, " + skill + ") = " + (skill + 1));
            rows.add("known(0, 1) = " + ((2 << skill) - 1));
            rows.add("bar(0, " + skill + ") = 0");
            rows.add("train(0, " + skill + ")" + STATE);
        }
        Calls.run("4 how many they have: from none to all", rows.toArray(new String[0]));
        Calls.run("4 a person's own skill alone, and no plan is altered by it",
                "person(128, 0, 9, 0) = 0", "person(0, 0, 9, 0) = 1", "task(0, 1, 9, 0) = 0", "assign(5) = 100000",
                "train(0, 0) = 2", "known(0, 1) = 129", "known(1, 1) = 0", "told(0, 1) = -1", "bar(1, 0) = 2",
                "assign(5) = 0", "told(0, 1) = 0");
    }

    private static void task() {
        Calls.run("5 a task, OPEN, with nothing planned, though another plan is there",
                "person(1, 0, 99, 0) = 0", "task(0, 1, 9, 0) = 0", "assign(5) = 0", "task(0, 1, 9, 0) = 1",
                "told(1, 0) = 0", "told(1, 1) = -1", "told(1, 2) = -1", "told(0, 1) = 0", "told(0, 2) = 0",
                "count(5) = 1", "count(7) = 100000", "order(0, 0) = 0", "order(0, 1) = -1");
        Calls.run("5 a task whose due is over",
                "person(1, 0, 100000, 0) = 0", "pass(99999) = ok", "task(0, 1, 0, 0) = 0", "assign(5) = 100000",
                "told(0, 1) = 0", "give(0) = 0", "pass(100000) = ok", "done(0) = 1");
    }

    private static void way() {
        Calls.run("6 a way alters no plan by itself",
                "person(1, 0, 100, 0) = 0", "task(0, 5, 5, 3) = 0", "assign(5) = 0", "way(3, 0, 9) = ok", "told(0, 2) = 0",
                "count(7) = 0", "bound() = 9", "assign(5) = 9", "told(0, 2) = 9");
        Calls.run("6 the longest ways, one behind the other",
                "person(1, 0, 2002, 0) = 0", "way(0, 1, 1000) = ok", "way(2, 1, 1000) = ok", "way(0, 2, 1000) = ok",
                "task(0, 1, 1001, 1) = 0", "task(0, 1, 2002, 2) = 1", "assign(5) = 0", "told(0, 2) = 1000",
                "told(1, 2) = 2001", "pass(1) = ok", "assign(5) = 100000");
    }

    private static void refuse() {
        Calls.run("7 whether it was planned for them; it has nothing then if so",
                "person(1, 0, 9, 0) = 0", "person(1, 0, 9, 0) = 1", "task(0, 5, 5, 0) = 0", "task(0, 5, 5, 0) = 1",
                "refuse(1, 0) = false", "assign(5) = 0", "told(0, 1) = 0", "told(1, 1) = 1", "refuse(0, 1) = false",
                "told(1, 1) = 1", "told(1, 2) = 0", "refuse(1, 1) = true", "told(1, 1) = -1", "told(1, 2) = -1",
                "told(1, 0) = 0", "told(0, 1) = 0", "known(1, 5) = 0", "count(7) = 100000", "assign(5) = 100000");
        Calls.run("7 the last task, by the last person",
                "person(0, 0, 99, 0) = 0", "person(0, 0, 99, 0) = 1", "person(0, 0, 99, 0) = 2", "person(1, 0, 99, 0) = 3",
                "task(1, 1, 0, 0) = 0", "task(1, 1, 0, 0) = 1", "task(1, 1, 0, 0) = 2", "task(1, 1, 0, 0) = 3",
                "task(1, 1, 0, 0) = 4", "task(1, 1, 0, 0) = 5", "task(1, 1, 0, 0) = 6", "task(1, 1, 0, 0) = 7",
                "task(1, 1, 0, 0) = 8", "task(1, 1, 0, 0) = 9", "task(1, 1, 0, 0) = 10", "task(1, 1, 0, 0) = 11",
                "task(1, 1, 0, 0) = 12", "task(1, 1, 0, 0) = 13", "task(1, 1, 0, 0) = 14", "task(0, 1, 1, 0) = 15",
                "assign(5) = 1500000", "told(15, 1) = 3", "refuse(3, 15) = true", "bar(3, 15) = 3", "bar(3, 14) = 2",
                "refuse(3, 15)" + STATE, "refuse(3, 14) = false", "refuse(2, 15) = false", "assign(5) = 1600000");
        Calls.run("7 a refusal stays, also of a task that was open again",
                "person(1, 0, 99, 0) = 0", "person(1, 0, 99, 0) = 1", "task(0, 5, 5, 0) = 0", "refuse(1, 0) = false",
                "assign(5) = 0", "give(0) = 0", "refuse(1, 0)" + STATE, "leaves(0) = 1", "refuse(1, 0)" + STATE,
                "refuse(0, 0) = false", "bar(1, 0) = 3", "assign(5) = 100000");
    }

    private static void bar() {
        Calls.run("8 it could not end in their hours: the very second",
                "person(1, 10, 20, 0) = 0", "task(0, 10, 0, 0) = 0", "task(0, 11, 0, 0) = 1", "task(0, 9, 0, 1) = 2",
                "way(0, 1, 1) = ok", "bar(0, 0) = 0", "bar(0, 1) = 4", "bar(0, 2) = 0", "way(0, 1, 2) = ok",
                "bar(0, 2) = 4", "pass(10) = ok", "bar(0, 0) = 0", "pass(11) = ok", "bar(0, 0) = 4");
        Calls.run("8 even if it were their only one (planned now)",
                "person(1, 0, 10, 0) = 0", "task(0, 6, 6, 0) = 0", "task(0, 6, 6, 0) = 1", "assign(5) = 100000",
                "bar(0, 0) = 0", "bar(0, 1) = 0", "pass(4) = ok", "bar(0, 1) = 0", "pass(5) = ok", "bar(0, 0) = 4",
                "told(0, 1) = 0");
        Calls.run("8 nobody's hours are left at the last time",
                "person(1, 0, 100000, 0) = 0", "task(0, 1, 0, 0) = 0", "pass(99999) = ok", "bar(0, 0) = 0",
                "pass(100000) = ok", "bar(0, 0) = 4", "bound() = 100000", "assign(5) = 100000", "told(0, 1) = -1");
    }

    /** Of the things that keep a person from a task, some or all hold: the first is told. */
    private static void barOrder() {
        for (int holding = 0; holding < 16; holding++) {
            boolean gone = (holding & 1) != 0;
            boolean unskilled = (holding & 2) != 0;
            boolean refused = (holding & 4) != 0;
            boolean tooLong = (holding & 8) != 0;
            int first = gone ? 1 : unskilled ? 2 : refused ? 3 : tooLong ? 4 : 0;
            Calls.run("8 the first thing that keeps a person from a task",
                    "person(" + (unskilled ? 254 : 1) + ", 0, 10, 0) = 0", "task(0, " + (tooLong ? 11 : 10) + ", 0, 0) = 0",
                    refused ? "refuse(0, 0) = false" : "count(0) = 1", gone ? "leaves(0) = 0" : "count(0) = 1",
                    "bar(0, 0) = " + first);
        }
    }

    private static void assign() {
        Calls.run("9 all open tasks are planned anew: nobody, nothing, nobody who can",
                "assign(5) = 0", "person(1, 0, 10, 0) = 0", "assign(5) = 0", "task(0, 11, 0, 0) = 0", "assign(5) = 100000",
                "leaves(0) = 0", "assign(5) = 100000", "assign(0) = 100000");
        Calls.run("9 tasks begun and done stay as they are",
                "person(1, 0, 99, 0) = 0", "task(0, 5, 0, 0) = 0", "task(0, 5, 1, 0) = 1", "task(0, 5, 2, 0) = 2",
                "assign(5) = 27", "give(0) = 0", "pass(5) = ok", "done(0) = 1", "give(0) = 1", "assign(5) = 13",
                "told(0, 0) = 2", "told(0, 1) = 0", "told(0, 2) = 0", "told(1, 0) = 1", "told(1, 1) = 0", "told(1, 2) = 5",
                "told(2, 2) = 10", "assign(0) = 13", "told(0, 2) = 0", "told(1, 2) = 5", "told(2, 2) = 10");
        Calls.run("9 all sixteen by rule, for one person",
                allOfOnePerson());
    }

    private static String[] allOfOnePerson() {
        List<String> rows = new ArrayList<>(List.of("person(1, 0, 80000, 0) = 0"));
        for (int task = 0; task < 16; task++) {
            rows.add("task(0, 5000, " + 5000 * (task + 1) + ", 0) = " + task);
        }
        rows.add("assign(5) = 0");
        rows.add("exact() = false");
        for (int place = 0; place < 16; place++) {
            rows.add("order(0, " + place + ") = " + place);
            rows.add("told(" + place + ", 2) = " + 5000 * place);
        }
        rows.addAll(List.of("order(0, 16) = -1", "known(0, 5) = 16", "count(5) = 0", "leaves(0) = 16", "count(5) = 16",
                "count(7) = 1600000"));
        return rows.toArray(new String[0]);
    }

    private static void exact() {
        Calls.run("10 false before",
                "exact() = false", "person(1, 0, 9, 0) = 0", "task(0, 1, 0, 0) = 0", "exact() = false",
                "assign(-1) = throws.IllegalArgumentException", "assign(6) = throws.IllegalArgumentException",
                "exact() = false", "bound() = 1", "exact() = false");
        Calls.run("10 the last planning alone",
                "task(0, 1, 0, 0) = 0", "assign(1) = 100000", "exact() = true", "assign(0) = 100000", "exact() = false",
                "assign(6) = throws.IllegalArgumentException", "exact() = false", "assign(5) = 100000", "exact() = true",
                "assign(-1) = throws.IllegalArgumentException", "exact() = true", "task(0, 1, 0, 0) = 1",
                "person(1, 0, 9, 0) = 0", "pass(1) = ok", "exact() = true");
    }

    private static void bound() {
        Calls.run("11 100000 if nobody may or can, added",
                "bound() = 0", "task(0, 5, 5, 0) = 0", "bound() = 100000", "task(0, 5, 5, 0) = 1", "bound() = 200000",
                "person(254, 0, 10, 0) = 0", "bound() = 200000", "person(1, 0, 4, 0) = 1", "bound() = 200000",
                "person(1, 0, 5, 0) = 2", "bound() = 0", "pass(1) = ok", "bound() = 200000");
        Calls.run("11 as the only one: not behind what is planned, but behind what is begun",
                "person(1, 0, 99, 0) = 0", "task(0, 5, 0, 0) = 0", "task(0, 5, 0, 0) = 1", "bound() = 10",
                "assign(5) = 15", "bound() = 10", "give(0) = 0", "bound() = 10", "pass(5) = ok", "done(0) = 1",
                "bound() = 10", "give(0) = 1", "bound() = 0");
        Calls.run("11 the least of somebody who may do it",
                "person(1, 8, 99, 0) = 0", "person(1, 6, 99, 0) = 1", "person(1, 7, 99, 0) = 2", "person(1, 5, 99, 0) = 3",
                "task(0, 5, 0, 0) = 0", "bound() = 10", "refuse(3, 0) = false", "bound() = 11", "leaves(1) = 0",
                "bound() = 12", "rest(2, 7, 20) = ok", "bound() = 13", "refuse(0, 0) = false", "bound() = 25");
        Calls.run("11 a plan may have less",
                "person(1, 0, 1000, 0) = 0", "way(0, 1, 1) = ok", "way(1, 2, 1) = ok", "way(0, 2, 900) = ok",
                "task(0, 1, 0, 1) = 0", "task(0, 10, 0, 2) = 1", "bound() = 912", "assign(5) = 15");
        Calls.run("11 the greatest lateness of one that can be done",
                "person(1, 99999, 100000, 0) = 0", "task(0, 1, 0, 0) = 0", "task(0, 1, 1, 0) = 1", "bound() = 199999");
    }

    private static void give() {
        Calls.run("12 -1 if they have none planned",
                "person(1, 0, 99, 0) = 0", "person(1, 0, 99, 0) = 1", "give(0) = -1", "task(0, 5, 5, 0) = 0", "give(0) = -1",
                "assign(5) = 0", "give(1) = -1", "told(0, 0) = 0", "refuse(0, 0) = true", "give(0) = -1");
        Calls.run("12 -1 if its start is behind now: the very second",
                "person(1, 0, 99, 0) = 0", "way(0, 1, 10) = ok", "task(0, 5, 15, 1) = 0", "assign(5) = 0", "pass(9) = ok",
                "give(0) = -1", "told(0, 0) = 0", "known(0, 2) = 0", "pass(10) = ok", "give(0) = 0", "told(0, 2) = 10",
                "known(0, 2) = 1", "known(0, 3) = 0");
        Calls.run("12 it begins now, though it was planned for before",
                "person(1, 0, 99, 0) = 0", "task(0, 5, 5, 2) = 0", "assign(5) = 0", "pass(98) = ok", "give(0) = 0",
                "told(0, 2) = 98", "known(0, 2) = 2", "pass(102) = ok", "done(0)" + STATE, "pass(103) = ok", "done(0) = 1",
                "told(0, 2) = 98");
        Calls.run("12 the one with the least start, whatever its number",
                "person(1, 0, 99, 0) = 0", "task(0, 9, 90, 0) = 0", "task(0, 1, 1, 0) = 1", "task(0, 2, 3, 0) = 2",
                "assign(5) = 0", "pass(50) = ok", "give(0) = 1", "pass(51) = ok", "done(0) = 1", "give(0) = 2",
                "pass(53) = ok", "done(0) = 2", "give(0) = 0", "told(0, 2) = 53");
    }

    private static void giveTime() {
        Calls.run("12 outside their hours: from counts, to does not",
                "person(1, 10, 20, 0) = 0", "give(0)" + STATE, "pass(9) = ok", "give(0)" + STATE, "pass(10) = ok",
                "give(0) = -1", "pass(19) = ok", "give(0) = -1", "pass(20) = ok", "give(0)" + STATE);
        Calls.run("12 in their break: from counts, to does not",
                "person(1, 0, 100, 0) = 0", "rest(0, 10, 20) = ok", "pass(9) = ok", "give(0) = -1", "pass(10) = ok",
                "give(0)" + STATE, "pass(19) = ok", "give(0)" + STATE, "pass(20) = ok", "give(0) = -1");
        Calls.run("12 a break of one second",
                "person(1, 0, 100, 0) = 0", "rest(0, 10, 11) = ok", "pass(9) = ok", "give(0) = -1", "pass(10) = ok",
                "give(0)" + STATE, "pass(11) = ok", "give(0) = -1");
        Calls.run("12 a break at the first and at the last second of the hours",
                "person(1, 5, 10, 0) = 0", "rest(0, 5, 6) = ok", "pass(5) = ok", "give(0)" + STATE, "pass(6) = ok",
                "give(0) = -1", "rest(0, 9, 10) = ok", "pass(8) = ok", "give(0) = -1", "pass(9) = ok", "give(0)" + STATE,
                "pass(10) = ok", "give(0)" + STATE);
    }

    private static void done() {
        Calls.run("13 how many they have done; its seconds are over at the very second",
                "person(1, 0, 99, 0) = 0", "person(2, 0, 99, 0) = 1", "task(0, 1, 1, 0) = 0", "task(0, 3, 4, 0) = 1",
                "task(1, 1, 1, 0) = 2", "assign(5) = 0", "give(0) = 0", "done(0)" + STATE, "pass(1) = ok", "done(0) = 1",
                "give(0) = 1", "pass(3) = ok", "done(0)" + STATE, "pass(4) = ok", "done(0) = 2", "give(1) = 2",
                "done(1)" + STATE, "pass(5) = ok", "done(1) = 1", "known(0, 4) = 2", "known(1, 4) = 1");
        Calls.run("13 in the break and behind the hours too",
                "person(1, 0, 20, 0) = 0", "task(0, 10, 10, 0) = 0", "task(0, 5, 20, 0) = 1", "assign(5) = 0", "give(0) = 0",
                "rest(0, 10, 15) = ok", "pass(10) = ok", "done(0) = 1", "pass(19) = ok", "give(0) = 1", "pass(24) = ok",
                "done(0) = 2");
        Calls.run("13 a task whose seconds go beyond the last time is never done",
                "person(1, 0, 100000, 0) = 0", "task(0, 2, 0, 0) = 0", "assign(5) = 2", "pass(99999) = ok", "give(0) = 0",
                "pass(100000) = ok", "done(0)" + STATE, "leaves(0) = 1");
    }

    private static void leaves() {
        Calls.run("14 none is free by that",
                "person(1, 0, 99, 0) = 0", "person(1, 0, 99, 0) = 1", "task(1, 5, 5, 0) = 0", "task(0, 5, 5, 0) = 1",
                "assign(5) = 100000", "leaves(1) = 0", "told(1, 1) = 0", "told(1, 2) = 0", "count(5) = 1");
        Calls.run("14 those planned for them have nothing",
                "person(1, 0, 99, 0) = 0", "person(2, 0, 99, 0) = 1", "task(0, 5, 5, 0) = 0", "task(0, 5, 10, 0) = 1",
                "task(1, 5, 5, 0) = 2", "assign(5) = 0", "leaves(0) = 2", "told(0, 1) = -1", "told(0, 2) = -1",
                "told(1, 1) = -1", "told(1, 2) = -1", "told(2, 1) = 1", "told(2, 2) = 0", "order(0, 0) = -1",
                "known(0, 5) = 0", "known(0, 0) = 0", "count(7) = 200000");
        Calls.run("14 one that they have begun is OPEN again, also if its seconds are over",
                "person(1, 0, 99, 0) = 0", "task(0, 5, 5, 1) = 0", "assign(5) = 0", "give(0) = 0", "pass(5) = ok",
                "leaves(0) = 1", "told(0, 0) = 0", "told(0, 1) = -1", "told(0, 2) = -1", "known(0, 3) = -1",
                "known(0, 2) = 1", "count(3) = 0", "count(2) = 1", "count(4) = 0", "person(1, 0, 99, 1) = 1",
                "assign(5) = 5", "give(1) = 0", "told(0, 1) = 1", "told(0, 2) = 5");
        Calls.run("14 those done stay",
                "person(1, 0, 99, 0) = 0", "task(0, 5, 5, 0) = 0", "assign(5) = 0", "give(0) = 0", "pass(5) = ok",
                "done(0) = 1", "leaves(0) = 0", "told(0, 0) = 2", "told(0, 1) = 0", "told(0, 2) = 0", "known(0, 4) = 1",
                "fair(0) = 100", "leaves(0)" + STATE);
    }

    private static void fair() {
        Calls.run("15 0 if none are",
                "person(1, 0, 99, 0) = 0", "fair(0) = 0", "task(0, 5, 5, 0) = 0", "fair(0) = 0", "assign(5) = 0",
                "give(0) = 0", "fair(0) = 0", "pass(5) = ok", "fair(0) = 0", "done(0) = 1", "fair(0) = 100");
        List<String> rows = new ArrayList<>(List.of("person(1, 0, 99, 0) = 0", "person(2, 0, 99, 0) = 1"));
        for (int task = 0; task < 16; task++) {
            rows.add("task(" + (task == 0 ? 1 : 0) + ", 1, 0, 0) = " + task);
        }
        rows.add("assign(0) = 121");
        rows.add("give(1) = 0");
        rows.add("pass(1) = ok");
        rows.add("done(1) = 1");
        for (int task = 1; task < 16; task++) {
            rows.add("give(0) = " + task);
            rows.add("pass(" + (task + 1) + ") = ok");
            rows.add("done(0) = " + task);
            rows.add("fair(0) = " + 100 * task / (task + 1));
            rows.add("fair(1) = " + 100 / (task + 1));
        }
        rows.addAll(List.of("fair(0) = 93", "fair(1) = 6", "count(4) = 16", "count(2) = 0", "leaves(1) = 0",
                "fair(0) = 93", "fair(1) = 6"));
        Calls.run("15 a hundred times, divided, rests are dropped", rows.toArray(new String[0]));
    }

    private static void pass() {
        Calls.run("16 it is this time; now itself is not before now",
                "pass(0) = ok", "count(6) = 0", "pass(5) = ok", "pass(5) = ok", "count(6) = 5",
                "pass(4) = throws.IllegalArgumentException", "count(6) = 5", "pass(100000) = ok", "pass(100000) = ok",
                "pass(99999) = throws.IllegalArgumentException", "pass(100001) = throws.IllegalArgumentException",
                "count(6) = 100000");
        Calls.run("16 the time alone alters no plan and ends no task",
                "person(1, 0, 10, 0) = 0", "task(0, 5, 5, 0) = 0", "task(0, 5, 10, 0) = 1", "assign(5) = 0", "give(0) = 0",
                "pass(100000) = ok", "told(0, 0) = 1", "told(1, 0) = 0", "told(1, 1) = 0", "told(1, 2) = 5", "count(7) = 0",
                "done(0) = 1");
    }

    private static void order() {
        Calls.run("17 -1 if there are not so many",
                "person(1, 0, 99, 0) = 0", "order(0, 0) = -1", "order(0, 2147483647) = -1", "task(0, 5, 99, 0) = 0",
                "order(0, 0) = -1", "assign(5) = 0", "order(0, 0) = 0", "order(0, 1) = -1", "order(0, 15) = -1",
                "order(0, 16) = -1", "order(0, 2147483647) = -1", "order(0, -1) = throws.IllegalArgumentException",
                "give(0) = 0", "order(0, 0) = -1", "pass(5) = ok", "done(0) = 1", "order(0, 0) = -1");
        Calls.run("17 by start: planned for a person, not for another",
                "person(1, 0, 99, 0) = 0", "person(2, 0, 99, 0) = 1", "task(0, 5, 10, 0) = 0", "task(1, 5, 5, 0) = 1",
                "task(0, 5, 5, 0) = 2", "task(1, 5, 10, 0) = 3", "assign(5) = 0", "order(0, 0) = 2", "order(0, 1) = 0",
                "order(0, 2) = -1", "order(1, 0) = 1", "order(1, 1) = 3", "order(1, 2) = -1", "leaves(1) = 2",
                "order(1, 0) = -1", "order(0, 0) = 2");
    }

    private static void told() {
        Calls.run("18 its person: planned, begun or done; -1 none",
                "person(0, 0, 99, 0) = 0", "person(1, 0, 99, 0) = 1", "task(0, 5, 5, 3) = 0", "told(0, 1) = -1",
                "assign(5) = 0", "told(0, 1) = 1", "give(1) = 0", "told(0, 1) = 1", "pass(5) = ok", "done(1) = 1",
                "told(0, 1) = 1", "told(0, 3) = 0", "told(0, 4) = 5", "told(0, 5) = 5", "told(0, 6) = 3");
        Calls.run("18 its start, -1 none: 0 is a start",
                "person(1, 0, 99, 0) = 0", "task(0, 5, 5, 0) = 0", "told(0, 2) = -1", "assign(5) = 0", "told(0, 2) = 0",
                "give(0) = 0", "told(0, 2) = 0", "pass(5) = ok", "done(0) = 1", "told(0, 2) = 0");
    }

    private static void known() {
        Calls.run("19 the task that they have begun, -1 none: 0 is a task",
                "person(1, 0, 99, 0) = 0", "known(0, 3) = -1", "task(0, 5, 5, 0) = 0", "assign(5) = 0", "known(0, 3) = -1",
                "known(0, 5) = 1", "give(0) = 0", "known(0, 3) = 0", "known(0, 5) = 0", "pass(5) = ok", "known(0, 3) = 0",
                "done(0) = 1", "known(0, 3) = -1", "known(0, 4) = 1");
        Calls.run("19 of the last person",
                "person(1, 0, 9, 0) = 0", "person(2, 0, 9, 1) = 1", "person(4, 0, 9, 2) = 2", "person(8, 0, 9, 3) = 3",
                "known(3, 1) = 8", "known(3, 2) = 3", "known(4, 1)" + NO_SUCH, "leaves(3) = 0", "known(3, 0) = 0",
                "known(3, 1) = 8", "known(3, 2) = 3", "known(2, 0) = 1");
    }

    private static void count() {
        Calls.run("20 -1 for another what",
                "count(-1) = -1", "count(8) = -1", "count(-2147483648) = -1", "count(2147483647) = -1", "count(7) = 0",
                "task(0, 1, 0, 0) = 0", "count(-1) = -1", "count(8) = -1", "count(7) = 100000");
        Calls.run("20 the lateness of the plan as it is told now",
                "person(1, 0, 99, 0) = 0", "task(0, 5, 0, 0) = 0", "task(0, 5, 0, 0) = 1", "count(7) = 200000",
                "assign(5) = 15", "count(7) = 15", "pass(7) = ok", "count(7) = 15", "give(0) = 0", "count(7) = 10",
                "way(0, 1, 9) = ok", "rest(0, 50, 99) = ok", "count(7) = 10", "task(0, 5, 0, 0) = 2", "count(7) = 100010",
                "refuse(0, 1) = true", "count(7) = 200000", "leaves(0) = 1", "count(7) = 300000", "count(5) = 3");
        Calls.run("20 persons who are gone count, tasks that are done count",
                "person(1, 0, 99, 0) = 0", "task(0, 5, 5, 0) = 0", "assign(5) = 0", "give(0) = 0", "count(2) = 0",
                "count(3) = 1", "count(5) = 0", "pass(5) = ok", "done(0) = 1", "leaves(0) = 0", "count(0) = 1",
                "count(1) = 1", "count(2) = 0", "count(3) = 0", "count(4) = 1", "count(5) = 0", "count(7) = 0");
    }
}
