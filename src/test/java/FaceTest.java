import java.io.IOException;
import java.lang.reflect.Constructor;
import java.lang.reflect.Member;
import java.lang.reflect.Method;
import java.lang.reflect.Modifier;
import java.nio.file.Files;
import java.nio.file.Path;
import java.util.ArrayList;
import java.util.Arrays;
import java.util.List;
import java.util.TreeSet;

/** The public face is the document's, and the source keeps to what of LANGUAGE.md can be seen from outside. */
public final class FaceTest {
    private static final String[] FACE = {
        "int person(int,int,int,int) IllegalArgumentException,UnsupportedOperationException",
        "void rest(int,int,int) NoSuchElementException,IllegalArgumentException",
        "int train(int,int) NoSuchElementException,IllegalArgumentException,IllegalStateException",
        "int task(int,int,int,int) IllegalArgumentException,UnsupportedOperationException",
        "void way(int,int,int) IllegalArgumentException",
        "boolean refuse(int,int) NoSuchElementException,IllegalStateException",
        "int bar(int,int) NoSuchElementException,IllegalStateException",
        "int assign(int) IllegalArgumentException",
        "boolean exact() ",
        "int bound() ",
        "int give(int) NoSuchElementException,IllegalStateException",
        "int done(int) NoSuchElementException,IllegalStateException",
        "int leaves(int) NoSuchElementException,IllegalStateException",
        "int fair(int) NoSuchElementException",
        "void pass(int) IllegalArgumentException",
        "int order(int,int) NoSuchElementException,IllegalArgumentException",
        "int told(int,int) NoSuchElementException,IllegalArgumentException",
        "int known(int,int) NoSuchElementException,IllegalArgumentException",
        "int count(int) ",
    };
    private static int wrong = 0;

    public static void main(String[] args) throws IOException {
        checkFace();
        checkNestedClasses();
        checkSource(Files.readString(Path.of("src/main/java/TaskShare.java")));
        System.out.println(wrong == 0 ? "the face is as due" : wrong + " things are not as due");
        if (wrong != 0) {
            System.exit(1);
        }
    }

    private static void need(boolean holds, String what) {
        if (!holds) {
            wrong++;
            System.out.println("not as due: " + what);
        }
    }

    private static void checkFace() {
        int modifiers = TaskShare.class.getModifiers();
        need(Modifier.isPublic(modifiers) && Modifier.isFinal(modifiers), "TaskShare is public and final");
        Constructor<?>[] constructors = TaskShare.class.getDeclaredConstructors();
        need(constructors.length == 1 && Modifier.isPublic(constructors[0].getModifiers())
                && constructors[0].getParameterCount() == 0, "one public constructor without parameters");
        TreeSet<String> seen = new TreeSet<>();
        List<Member> others = new ArrayList<>(Arrays.asList(TaskShare.class.getDeclaredFields()));
        for (Method method : TaskShare.class.getDeclaredMethods()) {
            if (Modifier.isPublic(method.getModifiers())) {
                seen.add(text(method));
            } else {
                others.add(method);
            }
        }
        need(seen.equals(new TreeSet<>(Arrays.asList(FACE))), "the public methods: " + seen);
        for (Member other : others) {
            need(Modifier.isPrivate(other.getModifiers()), other.getName() + " is private");
        }
    }

    private static String text(Method method) {
        List<String> takes = new ArrayList<>();
        for (Class<?> type : method.getParameterTypes()) {
            takes.add(type.getSimpleName());
        }
        List<String> thrown = new ArrayList<>();
        for (Class<?> type : method.getExceptionTypes()) {
            thrown.add(type.getSimpleName());
        }
        return method.getReturnType().getSimpleName() + " " + method.getName() + "(" + String.join(",", takes) + ") "
                + String.join(",", thrown);
    }

    private static void checkNestedClasses() {
        TreeSet<String> names = new TreeSet<>();
        for (String row : FACE) {
            names.add(row.substring(row.indexOf(' ') + 1, row.indexOf('(')));
        }
        List<Class<?>> all = new ArrayList<>(Arrays.asList(TaskShare.class.getDeclaredClasses()));
        for (Class<?> type : all) {
            int modifiers = type.getModifiers();
            need(Modifier.isPrivate(modifiers) && Modifier.isStatic(modifiers), type + " is private and static");
        }
        need(all.size() <= 12, "at most twelve classes");
        all.add(TaskShare.class);
        for (Class<?> type : all) {
            for (Method method : type.getDeclaredMethods()) {
                boolean ownName = Modifier.isPrivate(method.getModifiers()) && names.contains(method.getName());
                need(!ownName, method + " has a name of its own");
                need(method.getParameterCount() <= 7, method + " takes at most seven parameters");
            }
        }
    }

    private static void checkSource(String source) {
        for (String line : source.split("\n")) {
            need(!line.startsWith("import ") || line.equals("import java.util.ArrayList;")
                    || line.equals("import java.util.NoSuchElementException;"), line);
        }
        String[] ruledOut = {"package ", "->", "::", "try ", "catch", "finally", "synchronized", "assert ", "static {",
            "System.", "Exact("};
        for (String word : ruledOut) {
            need(!source.contains(word), "the source is without " + word);
        }
    }
}
