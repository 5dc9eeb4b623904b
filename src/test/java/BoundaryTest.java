import java.io.IOException;
import java.lang.reflect.InvocationTargetException;
import java.lang.reflect.Method;
import java.lang.reflect.Modifier;
import java.nio.charset.StandardCharsets;
import java.nio.file.Files;
import java.nio.file.Path;
import java.util.ArrayList;
import java.util.Comparator;
import java.util.List;
import java.util.regex.Matcher;
import java.util.regex.Pattern;

/**
 * The boundary cases: each sentence of the document that names one has a test of its own, which
 * bears the sentence's words. All that is asked here, too, is whether those words stand in the
 * document, and whether each answer that a promise names (NONE, BAD, ..) has a test that bears it.
 */
public final class BoundaryTest extends Runs {
    private static final int PROMISES = 39;
    private static final Class<?>[] GROUPS = {BoundaryRules.class, BoundaryTape.class, BoundaryElements.class,
        BoundaryTables.class, BoundarySmall.class, BoundaryLists.class, BoundaryRefused.class};

    private BoundaryTest() {
    }

    private static List<Method> tests() {
        List<Method> tests = new ArrayList<>();
        for (Class<?> group : GROUPS) {
            for (Method method : group.getDeclaredMethods()) {
                Sentence sentence = method.getAnnotation(Sentence.class);
                if (sentence != null) {
                    tests.add(method);
                }
                boolean helper = Modifier.isPrivate(method.getModifiers()) || method.isSynthetic();
                CHECK.holds("a test or a private helper: " + method, helper == (sentence == null));
            }
        }
        tests.sort(Comparator.comparingInt(BoundaryTest::promise).thenComparing(Method::getName));
        return tests;
    }

    private static int promise(Method test) {
        return test.getAnnotation(Sentence.class).promise();
    }

    private static String says(Method test) {
        return test.getAnnotation(Sentence.class).says();
    }

    private static void run(Method test) throws IllegalAccessException {
        CHECK.under("Promise " + promise(test) + ", \"" + says(test) + "\", " + test.getName() + ": ");
        int asked = CHECK.asked();
        try {
            test.invoke(null);
        } catch (InvocationTargetException fault) {
            CHECK.holds("threw " + fault.getCause(), false);
        }
        CHECK.holds("asks for something", CHECK.asked() > asked);
        CHECK.under("");
    }

    private static void wordsStandInDocument(List<Method> tests, String document) {
        for (Method test : tests) {
            CHECK.holds("in the document: " + says(test), document.contains(says(test)));
        }
    }

    /** Of each promise, as in "NONE: i, j, k; BAD." */
    private static void answersAreTested(List<Method> tests, String document) {
        Pattern answers = Pattern.compile("\\b(NONE|BAD|STATE|FULL|NOT|NO|NOTHING|BEYOND|BELOW|-100 less the FAULT)\\b");
        for (int promise = 1; promise <= PROMISES; promise++) {
            int start = document.indexOf("## Promise " + promise + ":");
            int end = document.indexOf("## ", start + 3);
            CHECK.holds("promise " + promise + " is in the document", start >= 0 && end > start);
            Matcher matcher = answers.matcher(start >= 0 && end > start ? document.substring(start, end) : "");
            while (matcher.find()) {
                String answer = matcher.group();
                int number = promise;
                CHECK.holds("promise " + promise + ": a test of " + answer, tests.stream()
                    .anyMatch(test -> promise(test) == number && says(test).contains(answer)));
            }
            int number = promise;
            CHECK.holds("promise " + promise + ": a test", tests.stream().anyMatch(test -> promise(test) == number));
        }
    }

    public static void main(String[] args) throws IOException, IllegalAccessException {
        List<Method> tests = tests();
        Path path = Path.of("../shared/DOC.md");
        if (Files.exists(path)) {
            String document = Files.readString(path, StandardCharsets.UTF_8).replaceAll("\\s+", " ");
            wordsStandInDocument(tests, document);
            answersAreTested(tests, document);
        }
        for (Method test : tests) {
            run(test);
        }
        CHECK.end("BoundaryTest, " + tests.size() + " sentences");
    }
}
