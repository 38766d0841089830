import java.lang.reflect.InvocationTargetException;
import java.lang.reflect.Method;
import java.util.HashMap;
import java.util.Map;

/** Makes calls that are written as text, and counts the answers that are not as due. */
final class Calls {
    /** What a later call answers is free. */
    static final int MOST_OF_ONE_OBJECT = 512;
    private static final Map<String, Method> METHODS = new HashMap<>();
    private static int made = 0;
    private static int wrong = 0;

    private Calls() {
    }

    /** The answer as text: a number, true or false, ok (of a void call), or throws.TheException. */
    static String answer(Object target, String call) {
        int open = call.indexOf('(');
        String inside = call.substring(open + 1, call.indexOf(')')).trim();
        String[] words = inside.isEmpty() ? new String[0] : inside.split("\\s*,\\s*");
        Object[] numbers = new Object[words.length];
        for (int i = 0; i < words.length; i++) {
            numbers[i] = Integer.valueOf(words[i]);
        }
        made++;
        try {
            Object got = method(target.getClass(), call.substring(0, open).trim()).invoke(target, numbers);
            return got == null ? "ok" : got.toString();
        } catch (InvocationTargetException e) {
            return "throws." + e.getCause().getClass().getSimpleName();
        } catch (IllegalAccessException e) {
            throw new IllegalStateException(call, e);
        }
    }

    static void due(String where, String got, String want) {
        if (!got.equals(want)) {
            wrong++;
            System.out.println(where + " answered " + got + ", due is " + want);
        }
    }

    /** Rows like "person(1, 0, 10, 0) = 0", made on one new object. */
    static void run(String name, String... rows) {
        needFew(rows.length);
        TaskShare share = new TaskShare();
        for (int i = 0; i < rows.length; i++) {
            String[] row = rows[i].split(" = ");
            due(name + ", row " + (i + 1) + ": " + row[0], answer(share, row[0]), row[1].trim());
        }
    }

    static void needFew(int calls) {
        if (calls > MOST_OF_ONE_OBJECT) {
            throw new IllegalStateException("more calls than an object is used for");
        }
    }

    static void end() {
        System.out.println(made + " calls, " + wrong + " wrong answers");
        if (wrong != 0 || made == 0) {
            System.exit(1);
        }
    }

    private static Method method(Class<?> type, String name) {
        return METHODS.computeIfAbsent(type.getName() + "." + name, key -> find(type, name));
    }

    private static Method find(Class<?> type, String name) {
        for (Method method : type.getDeclaredMethods()) {
            if (method.getName().equals(name)) {
                method.setAccessible(true);
                return method;
            }
        }
        throw new IllegalStateException("no method " + name);
    }
}
