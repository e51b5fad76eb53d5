import java.io.IOException;
import java.lang.reflect.Method;
import java.lang.reflect.Modifier;
import java.nio.file.Files;
import java.nio.file.Path;
import java.util.Map;
import java.util.TreeSet;
import java.util.regex.Matcher;
import java.util.regex.Pattern;
import java.util.stream.Stream;

/** README.md says what is so: its example answers as it says, and it names every call and every test. */
public final class ReadmeTest {
    private static final Map<String, Integer> NAMED = Map.of("BAD", -1, "NO", -2, "FULL", -3, "NONE", -4);
    private static final Pattern ANSWERED = Pattern.compile("o\\.(\\w+\\([^)]*\\)); +// (-?\\w+):? .*");
    private static final Pattern WRITTEN = Pattern.compile("for \\(char letter : \"([^\"]*)\"\\.toCharArray\\(\\)\\) \\{");
    private static final Pattern CALL = Pattern.compile("(?m)^\\| `(\\w+)\\(([^)]*)\\)` \\|");
    private static final Pattern TEST = Pattern.compile("(?m)^\\| `(\\w+Test)` \\|");

    private static final Due due = new Due();

    public static void main(String[] args) throws IOException {
        String page = Files.readString(Path.of("README.md"));
        example(page.substring(page.indexOf("```java\n") + 8, page.indexOf("```", page.indexOf("```java\n") + 8)));
        calls(page);
        tests(page);
        due.end("ReadmeTest");
    }

    /** A line is the object, a text that is written, or a call with its answer behind it. */
    private static void example(String code) {
        WalkingOrchard o = null;
        int answers = 0;
        for (String line : code.split("\n")) {
            Matcher answered = ANSWERED.matcher(line);
            Matcher written = WRITTEN.matcher(line);
            if (line.startsWith("WalkingOrchard o = new WalkingOrchard();")) {
                o = new WalkingOrchard();
            } else if (written.matches()) {
                for (char letter : written.group(1).toCharArray()) {
                    o.write(letter);
                }
            } else if (answered.matches()) {
                String answer = answered.group(2);
                int want = NAMED.containsKey(answer) ? NAMED.get(answer) : Integer.parseInt(answer);
                due.is("README: " + answered.group(1), Calls.answer(o, answered.group(1)), want);
                answers++;
            } else {
                boolean known = line.isEmpty() || line.equals("    o.write(letter);") || line.equals("}");
                due.is("README: a line that is looked at: " + line, known ? 1 : 0, 1);
            }
        }
        due.is("README: the example has answers", answers > 10 ? 1 : 0, 1);
    }

    private static void calls(String page) {
        TreeSet<String> face = new TreeSet<>();
        for (Method m : WalkingOrchard.class.getDeclaredMethods()) {
            if (Modifier.isPublic(m.getModifiers())) {
                face.add(m.getName() + " of " + m.getParameterCount());
            }
        }
        TreeSet<String> told = new TreeSet<>();
        Matcher call = CALL.matcher(page);
        while (call.find()) {
            told.add(call.group(1) + " of " + (call.group(2).isEmpty() ? 0 : call.group(2).split(",").length));
        }
        alike("calls", told, face);
    }

    private static void tests(String page) throws IOException {
        TreeSet<String> there = new TreeSet<>();
        try (Stream<Path> files = Files.list(Path.of("src/test/java"))) {
            files.map(file -> file.getFileName().toString()).filter(name -> name.endsWith("Test.java"))
                .forEach(name -> there.add(name.substring(0, name.length() - 5)));
        }
        TreeSet<String> told = new TreeSet<>();
        Matcher test = TEST.matcher(page);
        while (test.find()) {
            told.add(test.group(1));
        }
        alike("tests", told, there);
    }

    private static void alike(String what, TreeSet<String> told, TreeSet<String> want) {
        due.is("README: " + what + ", told " + told + ", there are " + want, told.equals(want) ? 1 : 0, 1);
    }
}
