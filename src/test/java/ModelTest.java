import java.util.Random;

/** All the calls of an object, drawn from fixed seeds, each answer against the plain model's. */
public final class ModelTest {
    private static final int[] ODD = {-1, Integer.MIN_VALUE, Integer.MAX_VALUE, 100000, 100001, 256, 255, 16, 8, 7, 5, 4, 0};
    private final Random random;
    private final TaskShare share = new TaskShare();
    private final Model model = new Model();
    private final String name;
    private final int span;
    private int made = 0;
    private int now = 0;

    private ModelTest(long seed) {
        random = new Random(seed);
        name = "seed " + seed;
        span = new int[] {12, 40, 120, 100000}[random.nextInt(4)];
    }

    public static void main(String[] args) {
        for (int seed = 0; seed < 1200; seed++) {
            new ModelTest(seed).play(seed % 3 != 0);
        }
        Calls.end();
    }

    private void play(boolean wholePlans) {
        int longestLook = wholePlans ? 1 + 2 * 16 : 1;
        while (made + longestLook <= Calls.MOST_OF_ONE_OBJECT) {
            String call = random.nextInt(40) == 0 ? oddCall() : call();
            String answer = both(call);
            if (call.startsWith("pass") && answer.equals("ok")) {
                now = Integer.parseInt(call.substring(5, call.length() - 1));
            }
            if (call.startsWith("assign") && wholePlans) {
                comparePlans();
            }
        }
    }

    private void comparePlans() {
        for (int task = 0; task < model.whats.size(); task++) {
            both("told(" + task + ", 1)");
            both("told(" + task + ", 2)");
        }
    }

    private String both(String call) {
        String want = Calls.answer(model, call);
        Calls.due(name + ", call " + made + ": " + call, Calls.answer(share, call), want);
        made++;
        return want;
    }

    private int upTo(int most) {
        return random.nextInt(most + 1);
    }

    private int time() {
        return upTo(Math.min(span, 100000));
    }

    private int length() {
        return 1 + upTo(Math.min(span / 4, 4999));
    }

    private String call() {
        switch (upTo(30)) {
            case 0: case 1: {
                int from = upTo(span / 3);
                return text("person", random.nextInt(256) | random.nextInt(256), from, Math.min(100000, from + 1 + time()), upTo(3));
            }
            case 2: case 3: case 4: case 5:
                return text("task", random.nextInt(3), length(), time(), upTo(3));
            case 6: {
                int from = time();
                return text("rest", upTo(3), from, Math.min(100000, from + upTo(span / 4)));
            }
            case 7:
                return text("train", upTo(3), upTo(7));
            case 8:
                return text("way", upTo(3), upTo(3), upTo(Math.min(1000, span / 4)));
            case 9:
                return text("refuse", upTo(3), upTo(7));
            case 10: case 11:
                return text("bar", upTo(3), upTo(15));
            case 12: case 13: case 14: case 15:
                return text("assign", random.nextBoolean() ? 5 : upTo(5));
            case 16:
                return text("exact");
            case 17:
                return text("bound");
            case 18: case 19: case 20:
                return text("give", upTo(3));
            case 21: case 22:
                return text("done", upTo(3));
            case 23:
                return text(random.nextInt(4) == 0 ? "leaves" : "fair", upTo(3));
            case 24: case 25:
                return text("pass", Math.min(100000, now + upTo(Math.max(1, span / 16))));
            case 26:
                return text("order", upTo(3), upTo(5));
            case 27:
                return text("told", upTo(15), upTo(6));
            case 28:
                return text("known", upTo(3), upTo(5));
            case 29:
                return text("fair", upTo(3));
            default:
                return text("count", upTo(8));
        }
    }

    /** A call with one of its numbers made odd. */
    private String oddCall() {
        String call = call();
        String inside = call.substring(call.indexOf('(') + 1, call.length() - 1);
        if (inside.isEmpty()) {
            return call;
        }
        String[] words = inside.split(", ");
        words[random.nextInt(words.length)] = String.valueOf(ODD[random.nextInt(ODD.length)]);
        return call.substring(0, call.indexOf('(') + 1) + String.join(", ", words) + ")";
    }

    private static String text(String name, int... numbers) {
        StringBuilder text = new StringBuilder(name).append('(');
        for (int i = 0; i < numbers.length; i++) {
            text.append(i == 0 ? "" : ", ").append(numbers[i]);
        }
        return text.append(')').toString();
    }
}
