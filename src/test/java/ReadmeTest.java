import java.io.IOException;
import java.lang.reflect.Method;
import java.lang.reflect.Modifier;
import java.nio.file.Files;
import java.nio.file.Path;
import java.util.ArrayList;
import java.util.List;
import java.util.TreeSet;
import java.util.regex.Matcher;
import java.util.regex.Pattern;
import java.util.stream.Collectors;
import java.util.stream.Stream;

/** What README.md says is so: its example runs and answers as it tells, and it names every call and every test. */
public final class ReadmeTest {
    private static final Pattern TOLD = Pattern.compile("int \\w+ = .*// (-?\\d+): .*");
    private static int wrong = 0;

    public static void main(String[] args) throws IOException {
        String readme = Files.readString(Path.of("README.md"));
        List<String> example = block(readme, "```java", "```");
        String own = Files.readString(Path.of("src/test/java/ReadmeTest.java"));
        need(example.equals(block(own, "// The example begins.", "// The example ends.")), "the example is what is run here");
        need(answersTold(example).equals(answersOfExample()),
                "answers told " + answersTold(example) + ", got " + answersOfExample());
        checkCalls(readme);
        checkTests(readme);
        System.out.println(wrong == 0 ? "README.md is as due" : wrong + " things are not as due");
        if (wrong != 0) {
            System.exit(1);
        }
    }

    private static void need(boolean holds, String what) {
        if (!holds) {
            wrong++;
            System.out.println("not as due: " + what);
        }
    }

    private static List<Integer> answersOfExample() {
        // The example begins.
        TaskShare share = new TaskShare();
        int anna = share.person(0b01, 0, 1000, 0);      // 0: skill 0, hours from 0 to 1000, in zone 0
        int ben = share.person(0b11, 20, 1000, 1);      // 1: skills 0 and 1, hours from 20, in zone 1
        share.rest(anna, 100, 130);                     // her break
        share.way(0, 1, 10);                            // ten seconds between zones 0 and 1
        int letter = share.task(0, 40, 60, 1);          // 0: needs skill 0, 40 seconds, due at 60, in zone 1
        int parcel = share.task(1, 30, 45, 1);          // 1: needs skill 1
        int late = share.assign(5);                     // 5: the parcel, which Ben alone can do, ends at 50
        int who = share.told(letter, 1);                // 0: Anna
        int start = share.told(letter, 2);              // 10: behind the way from zone 0
        share.pass(start);                              // the time goes on
        int begun = share.give(anna);                   // 0: she begins the letter
        share.pass(start + 40);
        int made = share.done(anna);                    // 1: so many she has done
        int part = share.fair(anna);                    // 100: of a hundred that all have done
        int freed = share.leaves(ben);                  // 1: the parcel has nothing now
        int bar = share.bar(anna, parcel);              // 2: she has not the skill
        int skills = share.train(anna, 1);              // 2: now she has two
        int again = share.assign(5);                    // 35: she ends the parcel at 80
        // The example ends.
        return List.of(anna, ben, letter, parcel, late, who, start, begun, made, part, freed, bar, skills, again);
    }

    private static List<Integer> answersTold(List<String> example) {
        List<Integer> told = new ArrayList<>();
        for (String line : example) {
            Matcher answer = TOLD.matcher(line);
            if (answer.matches()) {
                told.add(Integer.valueOf(answer.group(1)));
            }
        }
        return told;
    }

    /** The lines between the first that is the one text and the next that is the other, without their margins. */
    private static List<String> block(String text, String first, String last) {
        List<String> lines = text.lines().map(String::strip).collect(Collectors.toList());
        int begin = lines.indexOf(first) + 1;
        List<String> rest = lines.subList(begin, lines.size());
        need(begin > 0 && rest.contains(last), first + " .. " + last + " is there");
        return rest.subList(0, Math.max(0, rest.indexOf(last)));
    }

    private static void checkCalls(String readme) {
        TreeSet<String> told = found(readme, "^\\| `(\\w+)\\(.*?\\)` \\|");
        TreeSet<String> made = new TreeSet<>();
        for (Method method : TaskShare.class.getDeclaredMethods()) {
            if (Modifier.isPublic(method.getModifiers())) {
                made.add(method.getName());
            }
        }
        need(told.equals(made), "the calls in the table: " + told);
    }

    private static void checkTests(String readme) throws IOException {
        TreeSet<String> there = new TreeSet<>();
        try (Stream<Path> files = Files.list(Path.of("src/test/java"))) {
            files.forEach(file -> there.add(file.getFileName().toString().replace(".java", "")));
        }
        need(found(readme, "`(\\w+Test)`").equals(there), "the tests that are told are those that are there: " + there);
        for (String path : found(readme, "`((?:src|\\.ci)/[\\w./]+)`")) {
            need(Files.exists(Path.of(path)), path + " is there");
        }
    }

    private static TreeSet<String> found(String text, String pattern) {
        TreeSet<String> found = new TreeSet<>();
        Matcher matcher = Pattern.compile(pattern, Pattern.MULTILINE).matcher(text);
        while (matcher.find()) {
            found.add(matcher.group(1));
        }
        return found;
    }
}
