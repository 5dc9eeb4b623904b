import java.io.IOException;
import java.lang.reflect.Field;
import java.lang.reflect.Method;
import java.lang.reflect.Modifier;
import java.net.URL;
import java.net.URLClassLoader;
import java.nio.charset.StandardCharsets;
import java.nio.file.Files;
import java.nio.file.Path;
import java.util.List;
import java.util.Set;
import java.util.TreeSet;
import java.util.regex.Matcher;
import java.util.regex.Pattern;
import java.util.stream.Collectors;
import java.util.stream.Stream;
import javax.tools.ToolProvider;

/** Whether what README.md says is so: its example, its answers below 0, its words about THE TAPE, its tests. */
public final class ReadmeTest extends Runs {
    private static final Pattern ANSWERED = Pattern.compile("(x\\.\\w+\\(.*\\)); +// (-?\\d+|Long\\.MIN_VALUE):.*");

    private ReadmeTest() {
    }

    /** The example as a program that tells each call whose answer is not the one behind it. */
    private static String exampleProgram(String readme) {
        int start = readme.indexOf("```java\n");
        int end = readme.indexOf("```\n", start + 8);
        CHECK.holds("README.md has an example", start >= 0 && end > start);
        StringBuilder program = new StringBuilder("public final class ReadmeExample {\n");
        program.append("public static void run(java.util.function.Consumer<Object[]> due) {\n");
        int answers = 0;
        for (String line : readme.substring(start + 8, end).split("\n")) {
            Matcher matcher = ANSWERED.matcher(line);
            if (matcher.matches()) {
                answers++;
                program.append("due.accept(new Object[] {\"" + matcher.group(1) + "\", (long) " + matcher.group(1)
                    + ", (long) " + matcher.group(2) + "});\n");
            } else {
                program.append(line).append('\n');
            }
        }
        CHECK.holds("the example has answers, but only " + answers, answers >= 15);
        return program + "}\n}\n";
    }

    private static void example(String readme) throws IOException, ReflectiveOperationException {
        Path work = Files.createTempDirectory("readme");
        Path source = work.resolve("ReadmeExample.java");
        try {
            Files.writeString(source, exampleProgram(readme), StandardCharsets.UTF_8);
            int problems = ToolProvider.getSystemJavaCompiler().run(null, null, null,
                "-cp", System.getProperty("java.class.path"), "-d", work.toString(), source.toString());
            CHECK.same("compiling the example", problems, 0);
            if (problems == 0) {
                runExample(work);
            }
        } finally {
            Files.deleteIfExists(source);
            Files.deleteIfExists(work.resolve("ReadmeExample.class"));
            Files.deleteIfExists(work);
        }
    }

    private static void runExample(Path work) throws IOException, ReflectiveOperationException {
        java.util.function.Consumer<Object[]> due = row -> due((String) row[0], (long) row[1], (long) row[2]);
        try (URLClassLoader loader = new URLClassLoader(new URL[] {work.toUri().toURL()})) {
            loader.loadClass("ReadmeExample").getMethod("run", java.util.function.Consumer.class).invoke(null, due);
        }
    }

    private static void callsAndConstants(String readme) throws IllegalAccessException {
        Set<String> told = new TreeSet<>();
        Matcher matcher = Pattern.compile("(?m)^\\| (`.*?) \\| .* \\|$").matcher(section(readme, "## Use", "### Answers"));
        while (matcher.find()) {
            told.addAll(List.of(matcher.group(1).replace("`", "").split(", ")));
        }
        Set<String> calls = Stream.of(FusionRules.class.getDeclaredMethods())
            .filter(method -> Modifier.isPublic(method.getModifiers())).map(Method::getName).collect(Collectors.toSet());
        CHECK.holds("the table has all calls and no other: " + told, told.equals(calls));
        String answers = section(readme, "### Answers", "### THE TAPE");
        for (Field field : FusionRules.class.getFields()) {
            long value = field.getType() == long.class ? field.getLong(null) : field.getInt(null);
            String number = value == Long.MIN_VALUE ? "`Long.MIN_VALUE`" : Long.toString(value);
            CHECK.holds(field.getName() + " is told", answers.contains("| `" + field.getName() + "` | " + number + " |"));
        }
        CHECK.holds("NOTHING is told", answers.contains("| NOTHING | " + NOTHING + " |"));
        CHECK.holds("BEYOND is told", answers.contains("| BEYOND | " + BEYOND + " |"));
        CHECK.holds("BELOW is told", answers.contains("| BELOW | " + BELOW + " |"));
        CHECK.holds("FAULTS are told", answers.contains("| a FAULT | -100 less its place |"));
    }

    private static String section(String readme, String heading, String next) {
        int start = readme.indexOf("\n" + heading);
        int end = readme.indexOf("\n" + next);
        CHECK.holds("a section " + heading + " ahead of " + next, start >= 0 && end > start);
        return start >= 0 && end > start ? readme.substring(start, end) : "";
    }

    /** That of each row of the answers each call named in it does answer so. */
    private static void answersAreSo() {
        FusionRules x = told(3, "b*b=9a+9b+9c");
        FusionRules fresh = new FusionRules();
        x.give(0, 1, 999);
        due("together STATE", x.together(0, 0), STATE);
        due("back STATE", x.back(0, 0, 0), STATE);
        due("fill STATE", x.fill(), STATE);
        due("given STATE", x.given(0, 0, 0), STATE);
        due("undo STATE", x.undo(), STATE);
        due("clash NOT", fresh.clash(0), NOT);
        due("partner NOT", x.partner(2), NOT);
        due("closedSet NOT", x.closedSet(32), NOT);
        due("character NOT", x.character(5, 0), NOT);
        due("squares NOT", x.squares(5), NOT);
        due("small NOT", x.small(0, 0), NOT);
        due("judge NOTHING", x.judge(0, 0, 0), NOTHING);
        due("put NOTHING", x.put(0, 0, 1), NOTHING);
        due("get nothing", x.get(0, 0), NO);
        due("list BELOW", x.list(0, -1), BELOW);
        x.list(0, 1);
        due("put BEYOND", x.put(0, 1, 1), BEYOND);
        x.put(0, 0, 1);
        due("judge NOT", x.judge(0, 0, 0), NOT);
        x.put(0, 0, -5);
        due("get below 0", x.get(0, 0), -5);
        due("power NO", x.power(3, 1, 0), NO);
        due("odds NO", x.odds(3, 1, 0, 1, 0), NO);
    }

    private static void tapeIsSo(String readme) {
        String tape = section(readme, "### THE TAPE", "### How many calls");
        Matcher matcher = Pattern.compile("(b\\*b=\\S+)\n").matcher(tape);
        CHECK.holds("RULES as an instance", matcher.find());
        due("the instance of RULES", rules(made(0, 3, 0), matcher.group(1)), matcher.group(1).split(";").length);
        FusionRules x = told(2, "b*b=a+b");
        for (int bytes = 1; bytes <= 60; bytes++) {
            due("feed", x.feed('b'), bytes);
        }
        due("60 bytes at most", x.feed('b'), FULL);
        due("no such ELEMENT", x.element(4), NONE);
        due("THE TAPE stays", x.count(2), 60);
        x.image();
        x.undo();
        due("THE TAPE stays behind undo", x.count(2), 60);
        due("FAULT behind the first letter", x.element(0), -101);
        due("emptied by an ELEMENT with a FAULT", x.count(2), 0);
        due("RULES with a FAULT behind good ones", rules(x, "b*b=0;b*b=1"), -110);
        due("not taken at all", x.often(1, 1, 0), 1);
        due("emptied by RULES with a FAULT", x.count(2), 0);
        CHECK.holds("how many bytes", tape.contains("60 bytes at most"));
        CHECK.holds("how many calls", section(readme, "### How many calls", "## Tests").contains("512 calls"));
    }

    private static void testsAreThere(String readme) throws IOException {
        String tests = section(readme + "\n## End", "## Tests", "## End");
        Set<String> told = new TreeSet<>();
        Matcher matcher = Pattern.compile("(?m)^- `(\\w+)`:").matcher(tests);
        while (matcher.find()) {
            told.add(matcher.group(1) + ".java");
        }
        try (Stream<Path> files = Files.list(Path.of("src/test/java"))) {
            Set<String> there = files.map(file -> file.getFileName().toString())
                .filter(name -> name.endsWith("Test.java")).collect(Collectors.toSet());
            CHECK.holds("all tests and no other: " + told, told.equals(there));
        }
        CHECK.holds("how all tests are run", tests.contains("\n.ci/run\n") && Files.isExecutable(Path.of(".ci/run")));
    }

    public static void main(String[] args) throws IOException, ReflectiveOperationException {
        String readme = Files.readString(Path.of("README.md"), StandardCharsets.UTF_8);
        example(readme);
        callsAndConstants(readme);
        answersAreSo();
        tapeIsSo(readme);
        testsAreThere(readme);
        CHECK.end("ReadmeTest");
    }
}
