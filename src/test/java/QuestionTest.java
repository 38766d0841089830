import java.util.ArrayList;
import java.util.List;

/**
 * The calls that only ask (bar, exact, bound, fair, order, told, known, count): the answer is the model's, and
 * an object that was asked answers like one that was not.
 */
public final class QuestionTest {
    public static void main(String[] args) {
        ask("nobody, nothing", Scenes.NEW, 0, 0);
        ask("one person, one task, nothing planned", Scenes.ONE_OF_EACH, 1, 1);
        ask("planned exactly", Scenes.EXACT, 2, 2);
        ask("planned by rule, one begun, one done, one gone", Scenes.BUSY, 3, 7);
        ask("planned anew exactly behind that", Scenes.with(Scenes.BUSY, "assign(5)"), 3, 7);
        ask("a plan that could not be made so now", Scenes.with(Scenes.BUSY, "way(0, 3, 500)", "rest(0, 10, 900)",
                "pass(990)"), 3, 7);
        Calls.end();
    }

    private static void ask(String name, List<String> scene, int persons, int tasks) {
        for (String question : questions(persons, tasks)) {
            Probes.asked(name, scene, question);
        }
    }

    private static List<String> questions(int persons, int tasks) {
        List<String> questions = new ArrayList<>(List.of("exact()", "bound()"));
        for (int what = -1; what <= 8; what++) {
            questions.add("count(" + what + ")");
        }
        for (int person = 0; person < persons; person++) {
            questions.add("fair(" + person + ")");
            for (int what = 0; what <= 5; what++) {
                questions.add("known(" + person + ", " + what + ")");
            }
            for (int place = 0; place <= tasks; place++) {
                questions.add("order(" + person + ", " + place + ")");
            }
            for (int task = 0; task < tasks; task++) {
                questions.add("bar(" + person + ", " + task + ")");
            }
        }
        for (int task = 0; task < tasks; task++) {
            for (int what = 0; what <= 6; what++) {
                questions.add("told(" + task + ", " + what + ")");
            }
        }
        return questions;
    }
}
