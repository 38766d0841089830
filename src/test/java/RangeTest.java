import java.util.Collections;
import java.util.List;

/**
 * Every number of every call: the least and the greatest one that is allowed hold (all answers behind
 * them are the model's), the first one below, the first one above and the ends of int are refused, and
 * a refused call changes nothing. The # stands for the number in question.
 */
public final class RangeTest {
    private static final String NO_SUCH = "throws.NoSuchElementException";
    private static final String RANGE = "throws.IllegalArgumentException";

    public static void main(String[] args) {
        person();
        rest();
        train();
        task();
        way();
        assign();
        pass();
        order();
        told();
        known();
        count();
        everyPersonNumber();
        everyTaskNumber();
        Calls.end();
    }

    private static void person() {
        String name = "2 person, skills are the bits 0 .. 7";
        numbers(name, Scenes.NEW, "person(#, 0, 10, 0)", 0, 255, RANGE);
        numbers(name, Scenes.BUSY, "person(#, 0, 10, 0)", 0, 255, RANGE);
        name = "2 person, hours begin at a time and end at a later one";
        numbers(name, Scenes.NEW, "person(1, #, 100000, 0)", 0, 99999, RANGE);
        numbers(name, Scenes.BUSY, "person(1, #, 60, 0)", 0, 59, RANGE);
        numbers(name, Scenes.NEW, "person(1, #, 1, 0)", 0, 0, RANGE);
        name = "2 person, hours end at a time";
        numbers(name, Scenes.NEW, "person(1, 0, #, 0)", 1, 100000, RANGE);
        numbers(name, Scenes.BUSY, "person(1, 59, #, 0)", 60, 100000, RANGE);
        numbers(name, Scenes.NEW, "person(1, 99999, #, 0)", 100000, 100000, RANGE);
        name = "2 person, zones are 0 .. 3";
        numbers(name, Scenes.NEW, "person(1, 0, 10, #)", 0, 3, RANGE);
        numbers(name, Scenes.BUSY, "person(1, 0, 10, #)", 0, 3, RANGE);
    }

    private static void rest() {
        List<String> scene = Scenes.with(Scenes.ONE_OF_EACH, "assign(5)");
        numbers("3 rest, it begins within the hours", scene, "rest(0, #, 50)", 10, 50, RANGE);
        numbers("3 rest, it ends within the hours", scene, "rest(0, 10, #)", 10, 50, RANGE);
        numbers("3 rest, it begins no later than it ends", scene, "rest(0, #, 30)", 10, 30, RANGE);
        numbers("3 rest, it ends no earlier than it begins", scene, "rest(0, 30, #)", 30, 50, RANGE);
        List<String> rested = Scenes.with(Scenes.ONE_OF_EACH, "rest(0, 20, 30)", "assign(5)");
        numbers("3 rest, instead of another one", rested, "rest(0, 12, #)", 12, 50, RANGE);
        numbers("3 rest, instead of another one", rested, "rest(0, #, 45)", 10, 45, RANGE);
        numbers("3 rest, the hours are a person's own", Scenes.BUSY, "rest(1, #, 1000)", 5, 1000, RANGE);
        List<String> widest = List.of("person(1, 0, 100000, 0)", "task(0, 5, 20, 0)");
        numbers("3 rest, in the longest hours", widest, "rest(0, 0, #)", 0, 100000, RANGE);
        numbers("3 rest, in the longest hours", widest, "rest(0, #, 100000)", 0, 100000, RANGE);
    }

    private static void train() {
        String name = "4 train, skills are 0 .. 7";
        numbers(name, Scenes.with(Scenes.NEW, "person(0, 0, 10, 0)"), "train(0, #)", 0, 7, RANGE);
        List<String> allSkills = Scenes.with(Scenes.NEW, "person(255, 0, 10, 0)");
        for (int skill : new int[] {-1, 8, 31, 32, 33, 39, -32}) {
            Probes.refused(name, allSkills, "train(0, " + skill + ")", RANGE);
        }
    }

    private static void task() {
        for (List<String> scene : List.of(Scenes.NEW, Scenes.BUSY)) {
            numbers("5 task, skills are 0 .. 7", scene, "task(#, 5, 20, 0)", 0, 7, RANGE);
            numbers("5 task, it takes 1 .. 5000 seconds", scene, "task(0, #, 20, 0)", 1, 5000, RANGE);
            numbers("5 task, a due is a time", scene, "task(0, 5, #, 0)", 0, 100000, RANGE);
            numbers("5 task, zones are 0 .. 3", scene, "task(0, 5, 20, #)", 0, 3, RANGE);
        }
    }

    private static void way() {
        numbers("6 way, zones are 0 .. 3", Scenes.BUSY, "way(#, 1, 5)", 0, 3, RANGE);
        numbers("6 way, zones are 0 .. 3", Scenes.BUSY, "way(2, #, 5)", 0, 3, RANGE);
        numbers("6 way, it takes 0 .. 1000 seconds", Scenes.BUSY, "way(0, 1, #)", 0, 1000, RANGE);
        numbers("6 way, it takes 0 .. 1000 seconds", Scenes.NEW, "way(3, 2, #)", 0, 1000, RANGE);
        for (int zone = 0; zone <= 3; zone++) {
            String call = "way(" + zone + ", " + zone + ", ";
            Probes.refused("6 way, the zones are the same", Scenes.BUSY, call + "5)", RANGE);
            Probes.refused("6 way, the zones are the same", Scenes.BUSY, call + "0)", RANGE);
        }
    }

    private static void assign() {
        for (List<String> scene : List.of(Scenes.NEW, Scenes.EXACT, Scenes.BUSY, Scenes.FULL)) {
            numbers("9 assign, exactly for 0 .. 5", scene, "assign(#)", 0, 5, RANGE);
        }
    }

    private static void pass() {
        numbers("16 pass, a time", Scenes.EXACT, "pass(#)", 0, 100000, RANGE);
        numbers("16 pass, not before now", Scenes.BUSY, "pass(#)", 10, 100000, RANGE);
        numbers("16 pass, at the last time", Scenes.with(Scenes.FULL, "pass(100000)"), "pass(#)", 100000, 100000, RANGE);
    }

    private static void order() {
        for (List<String> scene : List.of(Scenes.ONE_OF_EACH, Scenes.BUSY, Scenes.FULL)) {
            numbers("17 order, i is not below 0", scene, "order(0, #)", 0, Integer.MAX_VALUE, RANGE);
        }
    }

    private static void told() {
        for (List<String> scene : List.of(Scenes.ONE_OF_EACH, Scenes.BUSY, Scenes.FULL)) {
            numbers("18 told, what is 0 .. 6", scene, "told(0, #)", 0, 6, RANGE);
        }
    }

    private static void known() {
        for (List<String> scene : List.of(Scenes.ONE_OF_EACH, Scenes.BUSY, Scenes.FULL)) {
            numbers("19 known, what is 0 .. 5", scene, "known(0, #)", 0, 5, RANGE);
        }
    }

    private static void count() {
        for (List<String> scene : List.of(Scenes.NEW, Scenes.BUSY, Scenes.FULL)) {
            for (int what : new int[] {Integer.MIN_VALUE, -1, 8, 9, Integer.MAX_VALUE}) {
                Probes.refused("20 count, another what", scene, "count(" + what + ")", "-1");
            }
            Probes.allowed("20 count, the first what", scene, "count(0)");
            Probes.allowed("20 count, the last what", scene, "count(7)");
        }
    }

    /** Nobody yet, one person, three of them and all four. */
    private static void everyPersonNumber() {
        String[] calls = {"rest(#, 40, 45)", "train(#, 7)", "refuse(#, 5)", "bar(#, 5)", "give(#)", "done(#)",
            "leaves(#)", "fair(#)", "order(#, 0)", "known(#, 0)"};
        String name = "a person that there is not";
        for (String call : calls) {
            noSuch(name, Scenes.with(Scenes.NEW, sixTasks()), call, 0);
            noSuch(name, Scenes.with(Scenes.ONE_OF_EACH, sixTasks()), call, 1);
            noSuch(name, Scenes.BUSY, call, 3);
            noSuch(name, Scenes.FULL, call, 4);
        }
        for (int person = 0; person < 4; person++) {
            for (String call : new String[] {"rest(#, 40, 45)", "refuse(#, 5)", "bar(#, 5)", "leaves(#)", "fair(#)",
                "order(#, 0)", "known(#, 0)"}) {
                Probes.allowed("a person that there is", Scenes.FULL, at(call, person));
            }
        }
    }

    private static String[] sixTasks() {
        return Collections.nCopies(6, "task(0, 5, 20, 0)").toArray(new String[0]);
    }

    /** Nothing yet, one task, seven of them and all sixteen. */
    private static void everyTaskNumber() {
        String name = "a task that there is not";
        for (String call : new String[] {"refuse(0, #)", "bar(0, #)", "told(#, 0)"}) {
            noSuch(name, List.of("person(1, 0, 10, 0)"), call, 0);
            noSuch(name, Scenes.ONE_OF_EACH, call, 1);
            noSuch(name, Scenes.BUSY, call, 7);
            noSuch(name, Scenes.FULL, call, 16);
            for (int task = 0; task < 16; task++) {
                Probes.allowed("a task that there is", Scenes.FULL, at(call, task));
            }
        }
    }

    private static void noSuch(String name, List<String> scene, String call, int first) {
        for (int number : new int[] {-1, Integer.MIN_VALUE, first, first + 1, 32, Integer.MAX_VALUE}) {
            Probes.refused(name, scene, at(call, number), NO_SUCH);
        }
    }

    private static void numbers(String name, List<String> scene, String call, int least, int most, String refusal) {
        Probes.allowed(name, scene, at(call, least));
        Probes.allowed(name, scene, at(call, most));
        Probes.refused(name, scene, at(call, least - 1), refusal);
        Probes.refused(name, scene, at(call, Integer.MIN_VALUE), refusal);
        if (most < Integer.MAX_VALUE) {
            Probes.refused(name, scene, at(call, most + 1), refusal);
            Probes.refused(name, scene, at(call, Integer.MAX_VALUE), refusal);
        }
    }

    private static String at(String call, int number) {
        return call.replace("#", String.valueOf(number));
    }
}
