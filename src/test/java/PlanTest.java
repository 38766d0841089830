import java.util.Random;

/** Drawn scenes, most with close numbers, so that plans tie: the whole plan and the bars against the plain model's. */
public final class PlanTest {
    private final Random random;
    private final TaskShare share = new TaskShare();
    private final Model model = new Model();
    private final String name;

    private PlanTest(long seed) {
        random = new Random(seed);
        name = "scene " + seed;
    }

    public static void main(String[] args) {
        for (int seed = 0; seed < 3000; seed++) {
            new PlanTest(seed).play(seed % 2 == 0);
            new PlanTest(seed).playAtTheLastTime();
            if (seed % 2 == 0) {
                new PlanTest(seed).playByOtherZones();
            }
        }
        Calls.end();
    }

    private void play(boolean exact) {
        int close = 1 + random.nextInt(10);
        for (int zone = 0; zone < 3; zone++) {
            for (int other = zone + 1; other < 4; other++) {
                both("way(" + zone + ", " + other + ", " + random.nextInt(close) + ")");
            }
        }
        int persons = 1 + random.nextInt(4);
        for (int person = 0; person < persons; person++) {
            drawPerson(person, close);
        }
        int begun = random.nextInt(3);
        drawTasks(begun, close);
        both("assign(5)");
        for (int person = 0; person < persons; person++) {
            both("give(" + person + ")");
        }
        both("pass(" + random.nextInt(1 + close / 2) + ")");
        for (int person = 0; person < persons; person++) {
            if (random.nextInt(3) == 0) {
                both("done(" + person + ")");
            }
        }
        int open = model.count(2);
        drawTasks(exact ? Math.max(0, 5 - random.nextInt(2) - open) : 6 + random.nextInt(8), close);
        both("refuse(" + random.nextInt(persons) + ", " + random.nextInt(6) + ")");
        both("assign(5)");
        comparePlan(persons);
    }

    /** A task that ends at 100000 may be as late as one that has nothing: the persons alone decide then. */
    private void playAtTheLastTime() {
        both("pass(" + (99997 + random.nextInt(3)) + ")");
        int persons = 1 + random.nextInt(4);
        for (int person = 0; person < persons; person++) {
            both("person(" + random.nextInt(32) + ", 0, 100000, 0)");
        }
        for (int task = 0; task < 5; task++) {
            both("task(" + random.nextInt(5) + ", " + (1 + random.nextInt(2)) + ", " + random.nextInt(2) + ", 0)");
        }
        both("assign(5)");
        comparePlan(persons);
    }

    /** Ways are either short or long, so that it pays to come by another zone, for more than one person at once. */
    private void playByOtherZones() {
        for (int zone = 0; zone < 3; zone++) {
            for (int other = zone + 1; other < 4; other++) {
                both("way(" + zone + ", " + other + ", " + (random.nextInt(3) == 0 ? 1000 : random.nextInt(3)) + ")");
            }
        }
        for (int person = 0; person < 4; person++) {
            both("person(" + (1 + random.nextInt(16) * 2) + ", 0, 9000, " + random.nextInt(2) + ")");
        }
        for (int task = 0; task < 5; task++) {
            int skill = random.nextInt(3) == 0 ? 0 : 1 + random.nextInt(4);
            both("task(" + skill + ", 1, " + random.nextInt(12) + ", " + random.nextInt(4) + ")");
        }
        both("assign(5)");
        comparePlan(4);
    }

    private void drawPerson(int person, int close) {
        int from = random.nextInt(close);
        int to = from + 1 + random.nextInt(6 * close);
        int skills = random.nextInt(4) == 0 ? random.nextInt(4) : 3;
        both("person(" + skills + ", " + from + ", " + to + ", " + random.nextInt(4) + ")");
        if (random.nextBoolean()) {
            int restFrom = from + random.nextInt(to - from);
            int restTo = restFrom + random.nextInt(Math.min(2 * close, to - restFrom + 1));
            both("rest(" + person + ", " + restFrom + ", " + restTo + ")");
        }
    }

    private void drawTasks(int wanted, int close) {
        for (int i = 0; i < wanted; i++) {
            both("task(" + random.nextInt(2) + ", " + (1 + random.nextInt(close)) + ", "
                    + random.nextInt(4 * close) + ", " + random.nextInt(4) + ")");
        }
    }

    private void comparePlan(int persons) {
        both("exact()");
        both("bound()");
        both("count(5)");
        both("count(7)");
        for (int task = 0; task < model.count(1); task++) {
            both("told(" + task + ", 1)");
            both("told(" + task + ", 2)");
            for (int person = 0; person < persons; person++) {
                both("bar(" + person + ", " + task + ")");
            }
        }
        for (int person = 0; person < persons; person++) {
            both("known(" + person + ", 5)");
            both("order(" + person + ", 0)");
            both("order(" + person + ", 1)");
            both("order(" + person + ", 2)");
        }
    }

    private void both(String call) {
        String want = Calls.answer(model, call);
        Calls.due(name + ": " + call, Calls.answer(share, call), want);
    }
}
