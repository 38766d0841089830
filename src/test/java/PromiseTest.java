/** For each promise: ordinary inputs, the edges that the document names, and wrong inputs. */
public final class PromiseTest {
    private static final String NO_SUCH = " = throws.NoSuchElementException";
    private static final String RANGE = " = throws.IllegalArgumentException";
    private static final String STATE = " = throws.IllegalStateException";
    private static final String NO_ROOM = " = throws.UnsupportedOperationException";

    public static void main(String[] args) {
        newObject();
        person();
        rest();
        restInPlans();
        train();
        task();
        way();
        refuse();
        bar();
        assignExactly();
        assignByRule();
        exact();
        bound();
        give();
        done();
        leaves();
        fair();
        pass();
        order();
        told();
        known();
        count();
        Calls.end();
    }

    private static void newObject() {
        Calls.run("1 a new object",
                "count(0) = 0", "count(1) = 0", "count(2) = 0", "count(3) = 0", "count(4) = 0", "count(5) = 0",
                "count(6) = 0", "count(7) = 0", "exact() = false", "bound() = 0",
                "told(0, 0)" + NO_SUCH, "known(0, 0)" + NO_SUCH);
    }

    private static void person() {
        Calls.run("2 person",
                "person(-1, 0, 1, 0)" + RANGE, "person(256, 0, 1, 0)" + RANGE,
                "person(1, -1, 1, 0)" + RANGE, "person(1, 5, 5, 0)" + RANGE, "person(1, 6, 5, 0)" + RANGE,
                "person(1, 0, 100001, 0)" + RANGE, "person(1, 100000, 100001, 0)" + RANGE,
                "person(1, 2147483647, -2147483648, 0)" + RANGE,
                "person(1, 0, 1, -1)" + RANGE, "person(1, 0, 1, 4)" + RANGE,
                "count(0) = 0",
                "person(255, 99999, 100000, 3) = 0", "person(0, 0, 1, 0) = 1",
                "known(0, 0) = 1", "known(0, 1) = 255", "known(0, 2) = 3", "known(0, 3) = -1",
                "person(1, 0, 100000, 1) = 2", "person(2, 7, 9, 2) = 3", "count(0) = 4",
                "person(1, 0, 1, 0)" + NO_ROOM, "person(256, 0, 1, 0)" + RANGE, "leaves(3) = 0",
                "person(1, 0, 1, 0)" + NO_ROOM, "count(0) = 4");
    }

    private static void rest() {
        Calls.run("3 rest",
                "rest(0, 0, 1)" + NO_SUCH, "person(1, 10, 100, 0) = 0",
                "rest(-1, 0, 1)" + NO_SUCH, "rest(1, 10, 20)" + NO_SUCH, "rest(1, 20, 10)" + NO_SUCH,
                "rest(0, 9, 20)" + RANGE, "rest(0, 20, 101)" + RANGE, "rest(0, 20, 19)" + RANGE,
                "rest(0, 5, 5)" + RANGE, "rest(0, 101, 101)" + RANGE,
                "rest(0, 10, 100) = ok", "task(0, 5, 50, 0) = 0", "bar(0, 0) = 4",
                "rest(0, 30, 40) = ok", "bar(0, 0) = 0",
                "pass(29) = ok", "give(0) = -1", "pass(30) = ok", "give(0)" + STATE,
                "pass(39) = ok", "give(0)" + STATE, "rest(0, 39, 39) = ok", "give(0) = -1",
                "rest(0, 30, 40) = ok", "leaves(0) = 0", "rest(0, 30, 41) = ok");
    }

    private static void restInPlans() {
        Calls.run("3 rest, a task that ends when it begins",
                "person(1, 0, 100, 0) = 0", "task(0, 10, 0, 0) = 0", "rest(0, 10, 20) = ok",
                "assign(5) = 10", "told(0, 2) = 0", "rest(0, 9, 20) = ok", "told(0, 2) = 0",
                "assign(5) = 30", "told(0, 2) = 20", "assign(0) = 30", "told(0, 2) = 20",
                "rest(0, 5, 5) = ok", "assign(5) = 10", "told(0, 2) = 0");
        Calls.run("3 rest, a way that ends when it ends",
                "person(1, 0, 100, 0) = 0", "task(0, 10, 0, 1) = 0", "way(0, 1, 20) = ok", "rest(0, 3, 20) = ok",
                "assign(5) = 30", "told(0, 2) = 20", "way(1, 0, 19) = ok", "assign(5) = 30", "told(0, 2) = 20",
                "way(0, 1, 21) = ok", "assign(5) = 31", "told(0, 2) = 21");
    }

    private static void train() {
        Calls.run("4 train",
                "train(0, 0)" + NO_SUCH, "train(0, 8)" + NO_SUCH, "person(2, 0, 10, 0) = 0",
                "train(0, -1)" + RANGE, "train(0, 8)" + RANGE, "train(0, 33)" + RANGE, "train(0, 1)" + STATE,
                "train(0, 0) = 2", "known(0, 1) = 3", "train(0, 0)" + STATE, "train(0, 7) = 3", "known(0, 1) = 131",
                "task(7, 1, 0, 0) = 0", "bar(0, 0) = 0", "leaves(0) = 0", "train(0, 6) = 4");
    }

    private static void task() {
        Calls.run("5 task",
                "task(-1, 1, 0, 0)" + RANGE, "task(8, 1, 0, 0)" + RANGE, "task(0, 0, 0, 0)" + RANGE,
                "task(0, 5001, 0, 0)" + RANGE, "task(0, 1, -1, 0)" + RANGE, "task(0, 1, 100001, 0)" + RANGE,
                "task(0, 1, 0, -1)" + RANGE, "task(0, 1, 0, 4)" + RANGE, "count(1) = 0",
                "task(7, 5000, 100000, 3) = 0", "told(0, 0) = 0", "told(0, 1) = -1", "told(0, 2) = -1",
                "told(0, 3) = 7", "told(0, 4) = 5000", "told(0, 5) = 100000", "told(0, 6) = 3",
                "task(0, 1, 0, 0) = 1", "task(0, 1, 0, 0) = 2", "task(0, 1, 0, 0) = 3", "task(0, 1, 0, 0) = 4",
                "task(0, 1, 0, 0) = 5", "task(0, 1, 0, 0) = 6", "task(0, 1, 0, 0) = 7", "task(0, 1, 0, 0) = 8",
                "task(0, 1, 0, 0) = 9", "task(0, 1, 0, 0) = 10", "task(0, 1, 0, 0) = 11", "task(0, 1, 0, 0) = 12",
                "task(0, 1, 0, 0) = 13", "task(0, 1, 0, 0) = 14", "task(0, 1, 0, 0) = 15",
                "task(0, 1, 0, 0)" + NO_ROOM, "task(8, 1, 0, 0)" + RANGE, "count(1) = 16", "count(5) = 16",
                "assign(5) = 1600000", "exact() = false");
    }

    private static void way() {
        Calls.run("6 way",
                "way(-1, 0, 1)" + RANGE, "way(0, -1, 1)" + RANGE, "way(4, 0, 1)" + RANGE, "way(0, 4, 1)" + RANGE,
                "way(2, 2, 0)" + RANGE, "way(0, 1, -1)" + RANGE, "way(0, 1, 1001)" + RANGE,
                "person(1, 0, 3000, 0) = 0", "task(0, 1, 0, 3) = 0", "assign(1) = 1",
                "way(3, 0, 1000) = ok", "assign(1) = 1001", "told(0, 2) = 1000",
                "way(0, 3, 7) = ok", "assign(1) = 8", "way(0, 3, 0) = ok", "assign(1) = 1",
                "way(1, 2, 9) = ok", "assign(1) = 1");
        Calls.run("6 way, from one task to the next",
                "person(1, 5, 100, 0) = 0", "way(0, 1, 3) = ok", "way(1, 2, 4) = ok", "way(0, 2, 50) = ok",
                "task(0, 2, 0, 1) = 0", "task(0, 2, 0, 2) = 1", "assign(2) = 26",
                "told(0, 2) = 8", "told(1, 2) = 14");
    }

    private static void refuse() {
        Calls.run("7 refuse",
                "person(1, 0, 100, 0) = 0", "person(1, 0, 100, 0) = 1", "refuse(0, 0)" + NO_SUCH,
                "task(0, 5, 0, 0) = 0", "task(0, 5, 0, 0) = 1", "refuse(2, 0)" + NO_SUCH, "refuse(-1, 0)" + NO_SUCH,
                "refuse(0, -1)" + NO_SUCH, "refuse(0, 2)" + NO_SUCH,
                "assign(5) = 10", "told(0, 1) = 0", "told(1, 1) = 1",
                "refuse(1, 0) = false", "told(0, 1) = 0", "refuse(1, 0)" + STATE,
                "refuse(0, 0) = true", "told(0, 1) = -1", "told(0, 2) = -1", "told(0, 0) = 0", "count(5) = 1",
                "refuse(0, 0)" + STATE, "assign(5) = 100005", "told(1, 1) = 0", "assign(0) = 100005",
                "give(0) = 1", "refuse(0, 1)" + STATE, "refuse(1, 1)" + STATE,
                "pass(5) = ok", "done(0) = 1", "refuse(0, 1)" + STATE);
        Calls.run("7 refuse, by one who is gone",
                "person(1, 0, 100, 0) = 0", "task(0, 5, 0, 0) = 0", "leaves(0) = 0",
                "refuse(0, 0) = false", "refuse(0, 0)" + STATE, "bar(0, 0) = 1");
    }

    private static void bar() {
        Calls.run("8 bar",
                "person(1, 0, 20, 0) = 0", "task(1, 21, 0, 0) = 0", "bar(0, 1)" + NO_SUCH, "bar(1, 0)" + NO_SUCH,
                "bar(-1, 0)" + NO_SUCH, "bar(0, -1)" + NO_SUCH,
                "refuse(0, 0) = false", "bar(0, 0) = 2", "train(0, 1) = 2", "bar(0, 0) = 3",
                "task(1, 21, 0, 0) = 1", "bar(0, 1) = 4", "task(1, 20, 0, 0) = 2", "bar(0, 2) = 0",
                "pass(1) = ok", "bar(0, 2) = 4", "leaves(0) = 0", "bar(0, 0) = 1", "bar(0, 2) = 1");
        Calls.run("8 bar, behind the task begun",
                "person(1, 0, 20, 0) = 0", "way(0, 1, 2) = ok", "task(0, 10, 0, 1) = 0", "assign(5) = 12",
                "pass(2) = ok", "task(0, 8, 0, 1) = 1", "task(0, 7, 0, 0) = 2", "bar(0, 1) = 0",
                "give(0) = 0", "bar(0, 0)" + STATE, "bar(0, 1) = 0", "bar(0, 2) = 4",
                "pass(12) = ok", "done(0) = 1", "bar(0, 0)" + STATE, "bar(0, 1) = 0", "bar(0, 2) = 4");
        Calls.run("8 bar, the other tasks planned do not count",
                "person(1, 0, 10, 0) = 0", "task(0, 10, 0, 0) = 0", "task(0, 10, 0, 0) = 1",
                "assign(5) = 100010", "told(0, 1) = 0", "bar(0, 1) = 0");
    }

    private static void assignExactly() {
        Calls.run("9 assign, wrong numbers",
                "assign(-1)" + RANGE, "assign(6)" + RANGE, "exact() = false", "assign(0) = 0", "exact() = true");
        Calls.run("9 assign, the lowest person at equal lateness",
                "person(1, 0, 100, 0) = 0", "person(1, 0, 100, 0) = 1",
                "task(0, 5, 50, 0) = 0", "task(0, 5, 50, 0) = 1", "assign(5) = 0",
                "told(0, 1) = 0", "told(0, 2) = 0", "told(1, 1) = 0", "told(1, 2) = 5");
        Calls.run("9 assign, a task that is 100000 late is planned all the same",
                "person(1, 0, 100000, 0) = 0", "pass(99999) = ok", "task(0, 1, 0, 0) = 0", "task(0, 1, 0, 0) = 1",
                "assign(5) = 200000", "told(0, 1) = 0", "told(0, 2) = 99999", "told(1, 1) = -1");
        Calls.run("9 assign, a low person for a low task, though a later one has nothing then",
                "person(3, 0, 100000, 0) = 0", "person(1, 0, 100000, 0) = 1", "pass(99999) = ok",
                "task(7, 1, 0, 0) = 0", "task(7, 1, 0, 0) = 1", "task(7, 1, 0, 0) = 2",
                "task(0, 1, 0, 0) = 3", "task(1, 1, 0, 0) = 4", "assign(5) = 500000",
                "told(3, 1) = 0", "told(4, 1) = -1");
        Calls.run("9 assign, the lesser starts of low tasks at equal lateness",
                "person(1, 0, 100, 0) = 0", "task(0, 5, 0, 0) = 0", "task(0, 5, 0, 0) = 1", "task(0, 5, 50, 0) = 2",
                "assign(5) = 15", "told(0, 2) = 0", "told(1, 2) = 5", "told(2, 2) = 10");
        Calls.run("9 assign, a way by another zone is shorter",
                "person(1, 0, 100, 0) = 0", "way(0, 1, 1) = ok", "way(1, 2, 1) = ok", "way(0, 2, 91) = ok",
                "task(0, 1, 0, 1) = 0", "task(0, 10, 0, 2) = 1", "bar(0, 1) = 4", "bound() = 100002",
                "assign(5) = 15", "told(0, 2) = 1", "told(1, 2) = 3");
        Calls.run("9 assign, planned anew",
                "person(1, 0, 10, 0) = 0", "task(0, 4, 0, 0) = 0", "assign(5) = 4", "told(0, 1) = 0",
                "pass(7) = ok", "assign(5) = 100000", "told(0, 1) = -1", "told(0, 2) = -1",
                "person(1, 50, 60, 0) = 1", "assign(5) = 54", "told(0, 1) = 1", "told(0, 2) = 50");
    }

    private static void assignByRule() {
        Calls.run("9 assign by rule, by due and then by number",
                "person(1, 0, 12, 0) = 0", "task(0, 5, 9, 0) = 0", "task(0, 5, 8, 0) = 1", "task(0, 5, 8, 0) = 2",
                "assign(2) = 100002", "told(1, 2) = 0", "told(2, 2) = 5", "told(0, 1) = -1", "exact() = false");
        Calls.run("9 assign by rule, whoever ends it first",
                "person(1, 3, 100, 0) = 0", "person(1, 0, 100, 1) = 1", "way(0, 1, 2) = ok",
                "task(0, 5, 9, 0) = 0", "assign(0) = 0", "told(0, 1) = 1", "told(0, 2) = 2");
        Calls.run("9 assign by rule, whoever has the fewest, then the lowest",
                "person(3, 0, 100, 0) = 0", "person(1, 0, 100, 0) = 1", "person(1, 0, 100, 0) = 2",
                "task(1, 5, 5, 0) = 0", "assign(1) = 0", "give(0) = 0", "pass(5) = ok", "done(0) = 1",
                "task(0, 5, 10, 0) = 1", "task(0, 5, 10, 0) = 2", "assign(0) = 0",
                "told(1, 1) = 1", "told(2, 1) = 2", "give(1) = 1", "pass(10) = ok", "done(1) = 1",
                "refuse(2, 2) = true", "task(0, 5, 20, 0) = 3", "assign(0) = 5",
                "told(2, 1) = 0", "told(3, 1) = 2");
        Calls.run("9 assign by rule, a task begun counts",
                "person(1, 0, 100, 0) = 0", "person(1, 5, 100, 0) = 1", "task(0, 5, 5, 0) = 0", "assign(0) = 0",
                "give(0) = 0", "task(0, 5, 10, 0) = 1", "assign(0) = 0", "told(1, 1) = 1");
    }

    private static void exact() {
        Calls.run("10 exact",
                "exact() = false", "task(0, 1, 0, 0) = 0", "task(0, 1, 0, 0) = 1", "exact() = false",
                "assign(1) = 200000", "exact() = false", "assign(2) = 200000", "exact() = true",
                "assign(6)" + RANGE, "exact() = true", "task(0, 1, 0, 0) = 2", "exact() = true",
                "assign(2) = 300000", "exact() = false");
        Calls.run("10 exact, tasks begun and done do not count",
                "person(1, 0, 9, 0) = 0", "task(0, 1, 0, 0) = 0", "assign(1) = 1", "give(0) = 0",
                "task(0, 1, 0, 0) = 1", "assign(1) = 2", "exact() = true");
    }

    private static void bound() {
        Calls.run("11 bound",
                "bound() = 0", "task(0, 10, 4, 1) = 0", "bound() = 100000",
                "person(1, 0, 100, 0) = 0", "bound() = 6", "way(0, 1, 8) = ok", "bound() = 14",
                "person(1, 3, 100, 1) = 1", "bound() = 9", "task(0, 10, 4, 1) = 1", "bound() = 18",
                "task(0, 10, 100, 1) = 2", "bound() = 18", "refuse(1, 0) = false", "bound() = 23",
                "leaves(0) = 0", "bound() = 100009", "rest(1, 3, 20) = ok", "bound() = 100026",
                "pass(91) = ok", "bound() = 300000");
        Calls.run("11 bound, tasks begun are none",
                "person(1, 0, 100, 0) = 0", "task(0, 10, 4, 0) = 0", "task(0, 10, 4, 0) = 1", "assign(5) = 22",
                "bound() = 12", "give(0) = 0", "bound() = 16", "pass(12) = ok", "bound() = 18", "done(0) = 1",
                "bound() = 18");
    }

    private static void give() {
        Calls.run("12 give",
                "give(0)" + NO_SUCH, "person(1, 2, 20, 0) = 0", "give(-1)" + NO_SUCH, "give(1)" + NO_SUCH,
                "give(0)" + STATE, "pass(2) = ok", "give(0) = -1", "way(0, 3, 4) = ok",
                "task(0, 5, 0, 3) = 0", "task(0, 2, 0, 3) = 1", "assign(5) = 21", "order(0, 0) = 1",
                "pass(5) = ok", "give(0) = -1", "known(0, 2) = 0", "pass(7) = ok", "give(0) = 1",
                "told(1, 0) = 1", "told(1, 1) = 0", "told(1, 2) = 7", "known(0, 2) = 3", "known(0, 3) = 1",
                "give(0)" + STATE, "pass(9) = ok", "give(0)" + STATE, "done(0) = 1", "give(0) = 0",
                "told(0, 2) = 9", "leaves(0) = 1", "give(0)" + STATE);
        Calls.run("12 give, at the ends of hours and break",
                "person(1, 0, 20, 0) = 0", "rest(0, 5, 10) = ok", "pass(4) = ok", "give(0) = -1",
                "pass(5) = ok", "give(0)" + STATE, "pass(9) = ok", "give(0)" + STATE, "pass(10) = ok",
                "give(0) = -1", "pass(19) = ok", "give(0) = -1", "pass(20) = ok", "give(0)" + STATE);
    }

    private static void done() {
        Calls.run("13 done",
                "done(0)" + NO_SUCH, "person(1, 0, 20, 0) = 0", "done(1)" + NO_SUCH, "done(-1)" + NO_SUCH,
                "done(0)" + STATE, "task(0, 5, 0, 0) = 0", "task(0, 5, 9, 0) = 1", "assign(5) = 6", "done(0)" + STATE,
                "pass(1) = ok", "give(0) = 0", "pass(5) = ok", "done(0)" + STATE, "pass(6) = ok", "done(0) = 1",
                "told(0, 0) = 2", "told(0, 1) = 0", "told(0, 2) = 1", "known(0, 3) = -1", "done(0)" + STATE,
                "give(0) = 1", "pass(50) = ok", "done(0) = 2", "count(4) = 2");
    }

    private static void leaves() {
        Calls.run("14 leaves",
                "leaves(0)" + NO_SUCH, "person(1, 0, 50, 0) = 0", "leaves(-1)" + NO_SUCH, "leaves(1)" + NO_SUCH,
                "task(0, 5, 0, 2) = 0", "task(0, 5, 9, 0) = 1", "task(0, 5, 10, 0) = 2", "task(0, 5, 10, 0) = 3",
                "assign(5) = 21", "give(0) = 0", "pass(5) = ok", "done(0) = 1", "give(0) = 1",
                "leaves(0) = 3", "told(0, 0) = 2", "told(0, 1) = 0", "told(1, 0) = 0", "told(1, 1) = -1",
                "told(1, 2) = -1", "told(2, 1) = -1", "told(3, 2) = -1", "known(0, 0) = 0", "known(0, 3) = -1",
                "known(0, 4) = 1", "known(0, 5) = 0", "count(5) = 3", "leaves(0)" + STATE, "done(0)" + STATE,
                "assign(5) = 300000");
    }

    private static void fair() {
        Calls.run("15 fair",
                "fair(0)" + NO_SUCH, "person(1, 0, 50, 0) = 0", "person(1, 0, 50, 0) = 1", "fair(-1)" + NO_SUCH,
                "fair(2)" + NO_SUCH, "fair(0) = 0", "task(0, 5, 5, 0) = 0", "task(0, 5, 5, 0) = 1",
                "task(0, 5, 10, 0) = 2", "assign(5) = 0", "give(0) = 0", "give(1) = 1", "fair(0) = 0",
                "pass(5) = ok", "done(1) = 1", "fair(0) = 0", "fair(1) = 100", "done(0) = 1", "fair(0) = 50",
                "give(0) = 2", "pass(10) = ok", "done(0) = 2", "fair(0) = 66", "fair(1) = 33",
                "leaves(1) = 0", "fair(0) = 66", "fair(1) = 33");
    }

    private static void pass() {
        Calls.run("16 pass",
                "pass(-1)" + RANGE, "pass(100001)" + RANGE, "count(6) = 0", "pass(0) = ok", "pass(7) = ok",
                "count(6) = 7", "pass(6)" + RANGE, "pass(7) = ok", "pass(100000) = ok", "count(6) = 100000",
                "pass(100000) = ok", "pass(99999)" + RANGE, "pass(-2147483648)" + RANGE);
    }

    private static void order() {
        Calls.run("17 order",
                "order(0, 0)" + NO_SUCH, "order(0, -1)" + NO_SUCH, "person(1, 0, 50, 0) = 0", "order(1, 0)" + NO_SUCH,
                "order(0, -1)" + RANGE, "order(0, 0) = -1", "task(0, 9, 50, 0) = 0", "task(0, 5, 9, 0) = 1",
                "task(0, 4, 4, 0) = 2", "order(0, 0) = -1", "assign(5) = 0", "order(0, 0) = 2", "order(0, 1) = 1",
                "order(0, 2) = 0", "order(0, 3) = -1", "order(0, 2147483647) = -1", "refuse(0, 1) = true",
                "order(0, 1) = 0", "order(0, 2) = -1", "give(0) = 2", "order(0, 0) = 0", "order(0, 1) = -1");
    }

    private static void told() {
        Calls.run("18 told",
                "told(0, 0)" + NO_SUCH, "told(0, 9)" + NO_SUCH, "task(3, 20, 30, 1) = 0", "told(1, 0)" + NO_SUCH,
                "told(-1, 0)" + NO_SUCH, "told(0, -1)" + RANGE, "told(0, 7)" + RANGE,
                "told(0, 0) = 0", "told(0, 1) = -1", "told(0, 2) = -1", "told(0, 3) = 3", "told(0, 4) = 20",
                "told(0, 5) = 30", "told(0, 6) = 1", "person(8, 4, 50, 0) = 0", "assign(5) = 0",
                "told(0, 0) = 0", "told(0, 1) = 0", "told(0, 2) = 4", "pass(6) = ok", "give(0) = 0",
                "told(0, 0) = 1", "told(0, 1) = 0", "told(0, 2) = 6", "pass(26) = ok", "done(0) = 1",
                "told(0, 0) = 2", "told(0, 1) = 0", "told(0, 2) = 6");
    }

    private static void known() {
        Calls.run("19 known",
                "known(0, 0)" + NO_SUCH, "known(0, 9)" + NO_SUCH, "person(5, 0, 50, 2) = 0", "known(1, 0)" + NO_SUCH,
                "known(-1, 0)" + NO_SUCH, "known(0, -1)" + RANGE, "known(0, 6)" + RANGE,
                "known(0, 0) = 1", "known(0, 1) = 5", "known(0, 2) = 2", "known(0, 3) = -1", "known(0, 4) = 0",
                "known(0, 5) = 0", "task(2, 3, 5, 1) = 0", "task(2, 3, 8, 1) = 1", "assign(2) = 0",
                "known(0, 5) = 2", "give(0) = 0", "known(0, 2) = 1", "known(0, 3) = 0", "known(0, 4) = 0",
                "known(0, 5) = 1", "pass(3) = ok", "done(0) = 1", "known(0, 3) = -1", "known(0, 4) = 1",
                "leaves(0) = 1", "known(0, 0) = 0", "known(0, 2) = 1", "known(0, 5) = 0");
    }

    private static void count() {
        Calls.run("20 count",
                "count(-1) = -1", "count(8) = -1", "count(2147483647) = -1", "count(-2147483648) = -1",
                "person(1, 0, 50, 0) = 0", "task(0, 3, 1, 0) = 0", "task(0, 3, 1, 0) = 1", "task(1, 3, 1, 0) = 2",
                "count(0) = 1", "count(1) = 3", "count(2) = 3", "count(5) = 3", "count(7) = 300000",
                "assign(5) = 100007", "count(5) = 1", "count(7) = 100007", "pass(1) = ok", "count(7) = 100007",
                "give(0) = 0", "count(2) = 2", "count(3) = 1", "count(4) = 0", "count(5) = 1", "count(7) = 100005",
                "pass(4) = ok", "done(0) = 1", "count(1) = 3", "count(3) = 0", "count(4) = 1", "count(6) = 4",
                "refuse(0, 1) = true", "count(5) = 2", "count(7) = 200000");
    }
}
