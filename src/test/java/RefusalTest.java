import java.util.List;

/**
 * Every refusal of every call that is not a number's range, that it changes nothing, and of two
 * refusals that hold at once the first.
 */
public final class RefusalTest {
    private static final String NO_SUCH = "throws.NoSuchElementException";
    private static final String RANGE = "throws.IllegalArgumentException";
    private static final String STATE = "throws.IllegalStateException";
    private static final String NO_ROOM = "throws.UnsupportedOperationException";

    public static void main(String[] args) {
        noRoom();
        trainedAlready();
        notToBeRefused();
        notToBeBarred();
        notToBeGiven();
        notWorkingNow();
        notToBeDone();
        goneAlready();
        noSuchBeforeRange();
        noSuchBeforeState();
        rangeBeforeState();
        rangeBeforeNoRoom();
        Calls.end();
    }

    private static void noRoom() {
        String name = "2 person, at most 4";
        Probes.allowed(name, Scenes.BUSY, "person(255, 0, 100000, 3)");
        Probes.refused(name, Scenes.with(Scenes.BUSY, "person(255, 0, 100000, 3)"), "person(255, 0, 100000, 3)", NO_ROOM);
        Probes.refused(name, Scenes.FULL, "person(0, 0, 1, 0)", NO_ROOM);
        Probes.refused(name + ", those who are gone too", Scenes.with(Scenes.FULL, "leaves(3)"), "person(0, 0, 1, 0)",
                NO_ROOM);
        name = "5 task, at most 16";
        List<String> oneLeft = Scenes.FULL.subList(0, Scenes.FULL.size() - 2);
        Probes.allowed(name, oneLeft, "task(7, 5000, 100000, 3)");
        Probes.refused(name, Scenes.with(oneLeft, "task(7, 5000, 100000, 3)"), "task(7, 5000, 100000, 3)", NO_ROOM);
        Probes.refused(name, Scenes.FULL, "task(0, 1, 0, 0)", NO_ROOM);
        Probes.refused(name + ", those that are done too", Scenes.with(Scenes.FULL, "give(0)", "pass(50)", "done(0)"),
                "task(0, 1, 0, 0)", NO_ROOM);
    }

    private static void trainedAlready() {
        for (int skill = 0; skill < 8; skill++) {
            Probes.refused("4 train, they have it", List.of("person(255, 0, 10, 0)"), "train(0, " + skill + ")", STATE);
            List<String> scene = List.of("person(0, 0, 10, 0)", "train(0, " + skill + ")");
            Probes.refused("4 train, they have it by training", scene, "train(0, " + skill + ")", STATE);
        }
        Probes.refused("4 train, they have it", Scenes.BUSY, "train(0, 2)", STATE);
        Probes.allowed("4 train, another has it", Scenes.BUSY, "train(1, 2)");
    }

    private static void notToBeRefused() {
        Probes.refused("7 refuse, it is done by them", Scenes.BUSY, "refuse(0, 0)", STATE);
        Probes.refused("7 refuse, it is done by another", Scenes.BUSY, "refuse(1, 0)", STATE);
        Probes.refused("7 refuse, it is begun by them", Scenes.BUSY, "refuse(1, 1)", STATE);
        Probes.refused("7 refuse, it is begun by another", Scenes.BUSY, "refuse(0, 1)", STATE);
        Probes.refused("7 refuse, they refused it", Scenes.BUSY, "refuse(1, 3)", STATE);
        Probes.allowed("7 refuse, another refused it", Scenes.BUSY, "refuse(0, 3)");
        Probes.allowed("7 refuse, it has nothing", Scenes.BUSY, "refuse(0, 5)");
        Probes.allowed("7 refuse, it is open again", Scenes.with(Scenes.BUSY, "leaves(1)"), "refuse(0, 1)");
        Probes.refused("7 refuse, they refused what is planned for another",
                Scenes.with(Scenes.BUSY, "refuse(1, 2)"), "refuse(1, 2)", STATE);
        Probes.refused("7 refuse, they refused what was planned for them",
                Scenes.with(Scenes.BUSY, "refuse(0, 2)"), "refuse(0, 2)", STATE);
    }

    private static void notToBeBarred() {
        for (int person = 0; person <= 2; person++) {
            Probes.refused("8 bar, the task is done", Scenes.BUSY, "bar(" + person + ", 0)", STATE);
            Probes.refused("8 bar, the task is begun", Scenes.BUSY, "bar(" + person + ", 1)", STATE);
            Probes.allowed("8 bar, the task is planned", Scenes.BUSY, "bar(" + person + ", 2)");
            Probes.allowed("8 bar, the task has nothing", Scenes.BUSY, "bar(" + person + ", 5)");
        }
        Probes.allowed("8 bar, the task is open again", Scenes.with(Scenes.BUSY, "leaves(1)"), "bar(1, 1)");
    }

    private static void notToBeGiven() {
        Probes.refused("12 give, they are gone", Scenes.BUSY, "give(2)", STATE);
        Probes.refused("12 give, they are gone with what was planned", Scenes.with(Scenes.EXACT, "pass(10)", "leaves(0)"),
                "give(0)", STATE);
        Probes.refused("12 give, they have begun one", Scenes.BUSY, "give(1)", STATE);
        Probes.refused("12 give, they have begun one and its seconds are over", Scenes.with(Scenes.BUSY, "pass(80)"),
                "give(1)", STATE);
        Probes.refused("12 give, they have begun one and have none planned",
                Scenes.with(Scenes.BUSY, "refuse(1, 6)"), "give(1)", STATE);
    }

    /** Hours from 10 to 50 and a break from 20 to 30; from counts, to does not. */
    private static void notWorkingNow() {
        List<String> nothingPlanned = Scenes.with(Scenes.ONE_OF_EACH, "rest(0, 20, 30)");
        List<String> planned = Scenes.with(nothingPlanned, "assign(5)");
        for (List<String> scene : List.of(nothingPlanned, planned)) {
            for (int time : new int[] {0, 9, 20, 21, 29, 50, 51, 100000}) {
                Probes.refused("12 give, not in hours or in the break, at " + time,
                        Scenes.with(scene, "pass(" + time + ")"), "give(0)", STATE);
            }
            for (int time : new int[] {10, 19, 30, 49}) {
                Probes.allowed("12 give, in hours and not in the break, at " + time,
                        Scenes.with(scene, "pass(" + time + ")"), "give(0)");
            }
        }
    }

    private static void notToBeDone() {
        Probes.refused("13 done, they have none", Scenes.ONE_OF_EACH, "done(0)", STATE);
        Probes.refused("13 done, they have some planned alone", Scenes.BUSY, "done(0)", STATE);
        Probes.refused("13 done, they are gone with the one begun", Scenes.BUSY, "done(2)", STATE);
        for (int time : new int[] {10, 11, 49}) {
            Probes.refused("13 done, its seconds are not over at " + time,
                    Scenes.with(Scenes.BUSY, "pass(" + time + ")"), "done(1)", STATE);
        }
        for (int time : new int[] {50, 51, 60, 1000, 100000}) {
            Probes.allowed("13 done, its seconds are over at " + time,
                    Scenes.with(Scenes.BUSY, "pass(" + time + ")"), "done(1)");
        }
        Probes.refused("13 done, it is done already", Scenes.with(Scenes.BUSY, "pass(50)", "done(1)"), "done(1)", STATE);
    }

    private static void goneAlready() {
        Probes.refused("14 leaves, they are gone", Scenes.BUSY, "leaves(2)", STATE);
        for (int person = 0; person < 4; person++) {
            String call = "leaves(" + person + ")";
            Probes.refused("14 leaves, they are gone", Scenes.with(Scenes.FULL, call), call, STATE);
        }
    }

    private static void noSuchBeforeRange() {
        for (List<String> scene : List.of(Scenes.NEW, Scenes.ONE_OF_EACH, Scenes.FULL)) {
            for (String call : new String[] {"rest(4, -1, 5)", "rest(4, 5, 100001)", "rest(-1, 30, 20)", "train(4, 8)",
                "train(-1, -1)", "order(4, -1)", "order(-1, -1)", "told(16, 7)", "told(-1, -1)", "known(4, 6)",
                "known(-1, -1)"}) {
                Probes.refused("NoSuchElementException comes before IllegalArgumentException", scene, call, NO_SUCH);
            }
        }
    }

    private static void noSuchBeforeState() {
        String name = "NoSuchElementException comes before IllegalStateException";
        for (String call : new String[] {"refuse(3, 0)", "refuse(3, 1)", "refuse(-1, 1)", "refuse(2, 7)", "bar(3, 0)",
            "bar(3, 1)", "bar(-1, 1)", "bar(2, 7)", "refuse(3, 7)", "bar(3, 7)"}) {
            Probes.refused(name, Scenes.BUSY, call, NO_SUCH);
        }
        List<String> barred = Scenes.with(Scenes.FULL, "leaves(0)", "leaves(1)", "leaves(2)", "leaves(3)");
        for (String call : new String[] {"give(4)", "done(4)", "leaves(4)", "leaves(-1)", "bar(0, 16)", "refuse(0, 16)"}) {
            Probes.refused(name, barred, call, NO_SUCH);
        }
    }

    private static void rangeBeforeState() {
        String name = "IllegalArgumentException comes before IllegalStateException";
        List<String> allSkills = List.of("person(255, 0, 10, 0)", "leaves(0)");
        for (String call : new String[] {"train(0, 8)", "train(0, -1)", "train(0, 32)", "train(0, 40)"}) {
            Probes.refused(name, allSkills, call, RANGE);
        }
    }

    private static void rangeBeforeNoRoom() {
        String name = "IllegalArgumentException comes before UnsupportedOperationException";
        for (String call : new String[] {"person(-1, 0, 1, 0)", "person(256, 0, 1, 0)", "person(1, -1, 1, 0)",
            "person(1, 1, 1, 0)", "person(1, 0, 100001, 0)", "person(1, 0, 1, -1)", "person(1, 0, 1, 4)",
            "task(-1, 1, 0, 0)", "task(8, 1, 0, 0)", "task(0, 0, 0, 0)", "task(0, 5001, 0, 0)", "task(0, 1, -1, 0)",
            "task(0, 1, 100001, 0)", "task(0, 1, 0, -1)", "task(0, 1, 0, 4)"}) {
            Probes.refused(name, Scenes.FULL, call, RANGE);
        }
    }
}
