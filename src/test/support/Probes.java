import java.util.ArrayList;
import java.util.List;

/**
 * Looks at an object from all sides: what it tells, and what it answers to each of several runs of
 * further calls, each run on an object of its own, as an object is used for so many calls alone.
 */
final class Probes {
    private static final int PERSONS = 4;
    private static final int TASKS = 16;
    private static final List<List<String>> RUNS =
            List.of(questions(), plans(), workdays(), refusals(), additions());

    private Probes() {
    }

    /** The call is refused so, and an object on which it was made answers like one on which it was not. */
    static void refused(String name, List<String> scene, String call, String refusal) {
        Calls.due(name + ": " + call, answers(new TaskShare(), scene, List.of(call)).get(0), refusal);
        changesNothing(name, scene, call);
    }

    /** The answer is the plain model's, and an object that was asked answers like one that was not. */
    static void asked(String name, List<String> scene, String question) {
        compare(name, List.of(question), answers(new TaskShare(), scene, List.of(question)),
                answers(new Model(), scene, List.of(question)));
        changesNothing(name, scene, question);
    }

    private static void changesNothing(String name, List<String> scene, String call) {
        for (List<String> run : RUNS) {
            List<String> longer = Scenes.with(scene, call);
            compare(name + ", behind " + call, run,
                    answers(new TaskShare(), longer, run), answers(new TaskShare(), scene, run));
        }
    }

    /** The call is not refused, and the object answers like the plain model, then and behind it. */
    static void allowed(String name, List<String> scene, String call) {
        String answer = answers(new TaskShare(), scene, List.of(call)).get(0);
        Calls.due(name + ": " + call + " refused", String.valueOf(answer.startsWith("throws.")), "false");
        for (List<String> run : RUNS) {
            List<String> calls = new ArrayList<>(List.of(call));
            calls.addAll(run);
            compare(name, calls, answers(new TaskShare(), scene, calls), answers(new Model(), scene, calls));
        }
    }

    private static void compare(String name, List<String> calls, List<String> got, List<String> want) {
        for (int i = 0; i < calls.size(); i++) {
            Calls.due(name + ", then: " + calls.get(i), got.get(i), want.get(i));
        }
    }

    private static List<String> answers(Object target, List<String> scene, List<String> calls) {
        Calls.needFew(scene.size() + calls.size());
        for (String call : scene) {
            Calls.answer(target, call);
        }
        List<String> answers = new ArrayList<>();
        for (String call : calls) {
            answers.add(Calls.answer(target, call));
        }
        return answers;
    }

    private static List<String> questions() {
        List<String> run = new ArrayList<>();
        for (int task = 0; task <= TASKS; task++) {
            for (int what = 0; what <= 6; what++) {
                run.add("told(" + task + ", " + what + ")");
            }
        }
        for (int person = 0; person <= PERSONS; person++) {
            for (int what = 0; what <= 5; what++) {
                run.add("known(" + person + ", " + what + ")");
            }
            for (int place = 0; place < 5; place++) {
                run.add("order(" + person + ", " + place + ")");
            }
            for (int task = 0; task <= TASKS; task++) {
                run.add("bar(" + person + ", " + task + ")");
            }
            run.add("fair(" + person + ")");
        }
        for (int what = -1; what <= 8; what++) {
            run.add("count(" + what + ")");
        }
        run.add("exact()");
        run.add("bound()");
        return run;
    }

    private static List<String> plans() {
        List<String> run = new ArrayList<>();
        for (int most = 5; most >= 0; most--) {
            run.add("assign(" + most + ")");
            run.add("exact()");
            for (int task = 0; task < TASKS; task++) {
                run.add("told(" + task + ", 1)");
                run.add("told(" + task + ", 2)");
            }
        }
        return run;
    }

    private static List<String> workdays() {
        List<String> run = new ArrayList<>();
        int[] times = {0, 1, 5, 9, 10, 19, 20, 30, 59, 60, 79, 80, 99, 100, 119, 120, 121, 150, 200, 400, 999, 1000,
            99999, 100000};
        for (int time : times) {
            run.add("pass(" + time + ")");
            for (int person = 0; person < PERSONS; person++) {
                run.add("done(" + person + ")");
                run.add("give(" + person + ")");
                run.add("known(" + person + ", 2)");
            }
            run.add("count(6)");
        }
        return run;
    }

    private static List<String> refusals() {
        List<String> run = new ArrayList<>();
        for (int person = 0; person < PERSONS; person++) {
            for (int task = 0; task < TASKS; task++) {
                run.add("refuse(" + person + ", " + task + ")");
            }
            for (int skill = 0; skill < 8; skill++) {
                run.add("train(" + person + ", " + skill + ")");
            }
            run.add("leaves(" + person + ")");
        }
        return run;
    }

    /** Tasks and persons as long as there is room: how much there was, and how far all zones are from each other. */
    private static List<String> additions() {
        List<String> run = new ArrayList<>();
        for (int i = 0; i <= PERSONS; i++) {
            run.add("person(255, 0, 100000, " + i % 4 + ")");
        }
        for (int i = 0; i <= TASKS; i++) {
            run.add("task(" + i % 8 + ", 1, 0, " + i % 4 + ")");
            run.add("bound()");
        }
        run.add("assign(0)");
        run.add("count(0)");
        run.add("count(1)");
        return run;
    }
}
