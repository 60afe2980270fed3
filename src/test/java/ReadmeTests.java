import java.io.IOException;
import java.lang.reflect.Method;
import java.lang.reflect.Modifier;
import java.nio.file.Files;
import java.nio.file.Path;
import java.util.Arrays;
import java.util.List;
import java.util.Set;
import java.util.TreeSet;
import java.util.regex.Matcher;
import java.util.regex.Pattern;
import java.util.stream.Stream;

/** What README.md says is what the class answers: each example is asked, and no call, answer or test is left out. */
public final class ReadmeTests {
    private static final Due DUE = new Due();
    private static final String NEW_OBJECT = "JugsAndGlasses x = new JugsAndGlasses();";
    private static final Pattern EXAMPLE =
        Pattern.compile("x\\.(\\w+)\\(([^)]*)\\); +// (-?\\d+|NONE|BAD|NOT|FULL)(: .*)?");
    private static final List<String> CONSTANTS = List.of("NONE", "BAD", "NOT", "FULL");
    private static final Set<String> CALLED = new TreeSet<>();
    private static final Set<String> ANSWERED = new TreeSet<>();

    public static void main(String[] args) throws Exception {
        Path home = Path.of(System.getProperty("jug.home", "."));
        String readme = Files.readString(home.resolve("README.md"));
        Matcher block = Pattern.compile("```java\n(.*?)```", Pattern.DOTALL).matcher(readme);
        while (block.find()) {
            askBlock(block.group(1).split("\n"));
        }
        nothingIsLeftOut(readme);
        constants(readme);
        tests(readme, home);
        DUE.end();
    }

    private static void askBlock(String[] lines) throws Exception {
        DUE.holds("a block begins with a new object", lines[0].equals(NEW_OBJECT));
        JugsAndGlasses x = new JugsAndGlasses();
        for (String line : Arrays.copyOfRange(lines, 1, lines.length)) {
            Matcher m = EXAMPLE.matcher(line);
            boolean isExample = m.matches();
            DUE.holds("a line that tells its answer: " + line, isExample);
            if (isExample) {
                ask(x, m.group(1), m.group(2), m.group(3));
            }
        }
    }

    private static void ask(JugsAndGlasses x, String name, String arguments, String answer) throws Exception {
        Method called = method(name);
        Object[] given = Stream.of(arguments.split(", ")).filter(a -> !a.isEmpty()).map(ReadmeTests::value).toArray();
        long got = ((Number) called.invoke(x, given)).longValue();
        DUE.is(name + "(" + arguments + ")", got, meant(answer));
        CALLED.add(name);
        ANSWERED.add(name + " " + answer);
        // A refusal or NONE told as a mere number would not say which it is.
        DUE.holds(name + "(" + arguments + ") tells " + answer + " by its name", !answer.startsWith("-"));
    }

    private static Object value(String told) {
        return told.equals("true") || told.equals("false") ? (Object) Boolean.valueOf(told) : Integer.valueOf(told);
    }

    private static long meant(String answer) throws Exception {
        return CONSTANTS.contains(answer) ? JugsAndGlasses.class.getField(answer).getInt(null) : Long.parseLong(answer);
    }

    private static Method method(String name) {
        for (Method m : JugsAndGlasses.class.getMethods()) {
            if (m.getName().equals(name) && m.getDeclaringClass() == JugsAndGlasses.class) {
                return m;
            }
        }
        throw new IllegalArgumentException("README.md calls " + name + ", and there is no such call");
    }

    /** Each call of the face has an example and a line; what its line says it may answer has an example too. */
    private static void nothingIsLeftOut(String readme) {
        for (Method m : JugsAndGlasses.class.getDeclaredMethods()) {
            if (!Modifier.isPublic(m.getModifiers())) {
                continue;
            }
            DUE.holds(m.getName() + " has an example", CALLED.contains(m.getName()));
            Matcher line = Pattern.compile("(?m)^\\| `" + m.getName() + "\\(([^)]*)\\)` \\| [^|]+ \\|([^|]*)\\|$")
                .matcher(readme);
            boolean hasLine = line.find();
            DUE.holds(m.getName() + " has a line", hasLine);
            if (!hasLine) {
                continue;
            }
            int parameters = line.group(1).isEmpty() ? 0 : line.group(1).split(", ").length;
            DUE.is(m.getName() + " takes so many", parameters, m.getParameterCount());
            for (String constant : CONSTANTS) {
                boolean told = Pattern.compile("\\b" + constant + "\\b").matcher(line.group(2)).find();
                DUE.holds(m.getName() + ": " + constant + " has an example, if its line tells of it, and only then",
                    told == ANSWERED.contains(m.getName() + " " + constant));
            }
        }
    }

    private static void constants(String readme) throws Exception {
        for (String constant : CONSTANTS) {
            int value = JugsAndGlasses.class.getField(constant).getInt(null);
            DUE.holds(constant + " is told as " + value, readme.contains("| `" + constant + "` | " + value + " |"));
        }
    }

    private static void tests(String readme, Path home) throws IOException {
        DUE.holds("how to run the tests", readme.contains("`.ci/run`") && Files.isExecutable(home.resolve(".ci/run")));
        try (Stream<Path> files = Files.list(home.resolve("src/test/java"))) {
            for (Path file : files.sorted().toList()) {
                String name = file.getFileName().toString().replace(".java", "");
                DUE.holds(name + " is told of", readme.contains("`" + name + "`"));
            }
        }
    }
}
