import java.io.IOException;
import java.lang.management.ManagementFactory;
import java.lang.reflect.Constructor;
import java.lang.reflect.Field;
import java.lang.reflect.Member;
import java.lang.reflect.Method;
import java.lang.reflect.Modifier;
import java.nio.charset.StandardCharsets;
import java.nio.file.Files;
import java.nio.file.Path;
import java.util.Map;
import java.util.Set;
import java.util.TreeMap;
import java.util.TreeSet;
import java.util.regex.Matcher;
import java.util.regex.Pattern;

/** The public face, those rules of LANGUAGE.md that can be seen from outside, and the room that calls take. */
public final class FaceTest {
    private static final Check CHECK = new Check();
    private static final String[] FACE = {
        "int set(int,int)", "int of(int)", "int tell(int,int,int,int)", "int feed(int)", "int rules()",
        "int often(int,int,int)", "int clash(int)", "int partner(int)", "long power(int,int,int)", "int element(int)",
        "int has(int,int)", "int give(int,int,int)", "int together(int,int)", "int closed(int)", "int closedSet(int)",
        "int hull(int)", "int character(int,int)", "int squares(int)", "int back(int,int,int)", "int table(int,int,int)",
        "int twist(int,int)", "int fill()", "int given(int,int,int)", "int law(int)", "int small(int,int)",
        "int were(int,int,int)", "long odds(int,int,int,int,int)", "int plan(int,int)", "int ends(int,int)",
        "int write(int)", "int paper(int)", "int judge(int,int,int)", "int list(int,int)", "int put(int,int,long)",
        "long get(int,int)", "int image()", "int undo()", "int count(int)"};

    private FaceTest() {
    }

    private static void face() {
        Set<String> found = new TreeSet<>();
        Set<String> names = new TreeSet<>();
        for (Method method : FusionRules.class.getDeclaredMethods()) {
            if (!Modifier.isPrivate(method.getModifiers())) {
                StringBuilder text = new StringBuilder(method.getReturnType() + " " + method.getName() + "(");
                for (Class<?> type : method.getParameterTypes()) {
                    text.append(text.charAt(text.length() - 1) == '(' ? "" : ",").append(type);
                }
                found.add(text + ")");
                names.add(method.getName());
                CHECK.holds("public and not static: " + method, method.getModifiers() == Modifier.PUBLIC);
            }
        }
        CHECK.holds("the methods of the face", found.equals(new TreeSet<>(Set.of(FACE))));
        Constructor<?>[] constructors = FusionRules.class.getDeclaredConstructors();
        CHECK.holds("one public constructor", constructors.length == 1
            && constructors[0].getParameterCount() == 0 && Modifier.isPublic(constructors[0].getModifiers()));
        CHECK.holds("public final class", FusionRules.class.getModifiers() == (Modifier.PUBLIC | Modifier.FINAL));
        CHECK.same("NONE", FusionRules.NONE, -1);
        CHECK.same("BAD", FusionRules.BAD, -2);
        CHECK.same("STATE", FusionRules.STATE, -3);
        CHECK.same("FULL", FusionRules.FULL, -4);
        CHECK.same("NOT", FusionRules.NOT, -5);
        CHECK.same("NO", FusionRules.NO, Long.MIN_VALUE);
        members(FusionRules.class, names);
        for (Class<?> inside : FusionRules.class.getDeclaredClasses()) {
            CHECK.holds("static and not public: " + inside, Modifier.isStatic(inside.getModifiers())
                && !Modifier.isPublic(inside.getModifiers()));
            members(inside, names);
        }
    }

    private static void members(Class<?> of, Set<String> publicNames) {
        int constants = 0;
        int fields = 0;
        for (Field field : of.getDeclaredFields()) {
            boolean constant = Set.of("NONE", "BAD", "STATE", "FULL", "NOT", "NO").contains(field.getName());
            CHECK.holds("hidden: " + field, of != FusionRules.class || constant || isPrivate(field));
            CHECK.holds("a static one is final: " + field, !isStatic(field) || Modifier.isFinal(field.getModifiers()));
            constants += isStatic(field) ? 1 : 0;
            fields += isStatic(field) ? 0 : 1;
        }
        CHECK.holds("some twenty fields: " + of, fields <= 20 && constants < 60);
        for (Method method : of.getDeclaredMethods()) {
            CHECK.holds("seven parameters at most: " + method, method.getParameterCount() <= 7);
            CHECK.holds("bears no public name: " + method, of == FusionRules.class && !isPrivate(method)
                || !publicNames.contains(method.getName()));
        }
    }

    private static boolean isPrivate(Member member) {
        return Modifier.isPrivate(member.getModifiers());
    }

    private static boolean isStatic(Member member) {
        return Modifier.isStatic(member.getModifiers());
    }

    private static void language() throws IOException {
        String text = Files.readString(Path.of("src/main/java/FusionRules.java"), StandardCharsets.UTF_8);
        CHECK.holds("signs 1 to 127", text.chars().allMatch(sign -> sign > 0 && sign < 128));
        String code = text.replaceAll("(?s)/\\*.*?\\*/", "").replaceAll("//[^\\n]*", "");
        String[] words = {"throw", "throws", "try", "catch", "finally", "synchronized", "assert", "package", "protected",
            "abstract", "extends", "volatile", "transient", "native", "double", "float", "Object", "hashCode", "toString",
            "System\\.(?!arraycopy)\\w+", "\\w+Exact", "Math\\.(?!min|max|abs|floorMod|floorDiv)\\w+"};
        for (String word : words) {
            CHECK.holds("no " + word, !Pattern.compile("\\b" + word + "\\b").matcher(code).find());
        }
        CHECK.holds("no lambda, no method reference", !code.contains("->") && !code.contains("::"));
        Matcher imports = Pattern.compile("import ([\\w.]+);").matcher(code);
        while (imports.find()) {
            CHECK.holds("import of " + imports.group(1), imports.group(1).equals("java.util.Arrays"));
        }
        CHECK.holds("loops without an end", !Pattern.compile("while \\(true\\)|for \\(;;\\)").matcher(code).find());
        CHECK.holds("twelve classes at most", code.split("\\bclass\\b").length <= 13);
        longMethods(text.split("\n"));
        deepCalls(code);
    }

    private static void longMethods(String[] lines) {
        int start = -1;
        for (int i = 0; i < lines.length; i++) {
            if (lines[i].matches("(    |        )[\\w\\[\\] ]+\\(.*\\) \\{") && start < 0) {
                start = i;
            } else if (start >= 0 && lines[i].equals(lines[start].replaceAll("\\S.*", "") + "}")) {
                CHECK.holds("sixty lines at most: " + lines[start], i - start < 60);
                start = -1;
            }
        }
        CHECK.same("a method that was not seen to end", start, -1);
    }

    /** The names of methods and what stands in them; each name is borne by one method alone, which is asked, too. */
    private static Map<String, String> bodies(String code) {
        Map<String, String> bodies = new TreeMap<>();
        Matcher heads = Pattern.compile("(?m)^( {4}| {8})(?:\\w+ )*[\\w\\[\\]]+ (\\w+)\\(.*\\) \\{$").matcher(code);
        while (heads.find()) {
            int end = code.indexOf("\n" + heads.group(1) + "}\n", heads.end());
            String before = bodies.put(heads.group(2), code.substring(heads.end(), Math.max(end, heads.end())));
            CHECK.holds("found whole and once: " + heads.group(2), end >= 0 && before == null);
        }
        return bodies;
    }

    /** How many calls stand open at most in a call of this method; one that calls itself is counted once. */
    private static int deep(String name, Map<String, String> bodies, Set<String> open) {
        int most = 0;
        open.add(name);
        Matcher calls = Pattern.compile("\\b(\\w+)\\(").matcher(bodies.get(name));
        while (calls.find()) {
            String callee = calls.group(1);
            if (bodies.containsKey(callee) && !callee.equals(name)) {
                CHECK.holds("methods that call one another: " + name + " and " + callee, !open.contains(callee));
                most = open.contains(callee) ? most : Math.max(most, deep(callee, bodies, open));
            }
        }
        open.remove(name);
        return 1 + most;
    }

    private static void deepCalls(String code) {
        Map<String, String> bodies = bodies(code.replaceAll("\\b(Arrays|Math|System)\\.\\w+\\(", "("));
        for (String head : FACE) {
            String name = head.replaceAll(".* |\\(.*", "");
            CHECK.holds("found: " + name, bodies.containsKey(name));
            int deep = bodies.containsKey(name) ? deep(name, bodies, new TreeSet<>()) : 0;
            CHECK.holds("eight calls deep at most: " + name + " goes " + deep, deep >= 1 && deep <= 8);
        }
        for (Map.Entry<String, String> body : bodies.entrySet()) {
            CHECK.holds("makes no object: " + body.getKey(), !Pattern.compile("\\bnew\\b").matcher(body.getValue()).find());
        }
    }

    private static void dearCalls(FusionRules x, int times) {
        for (int i = 0; i < times; i++) {
            x.set(0, i % 5);
            x.set(1, 5 - i % 2);
            x.tell(1 + i % 4, 1 + i % 3, i % 5, i % 10);
            x.feed('b');
            x.element(i % 4);
            x.rules();
            x.together(0, 1);
            x.power(1, 8, 1);
            x.hull(3);
            x.closedSet(-1);
            x.back(1, 1, 1);
            x.fill();
            x.given(1, 1, 1);
            x.law(1);
            x.small(3, -1);
            x.were(1, 1, 1);
            x.odds(1, 12, i, 30, 0);
            x.plan(0, 1);
            x.ends(0, 0);
            x.write(0);
            x.list(0, 12);
            x.judge(0, 1, 1);
            x.image();
            x.undo();
        }
    }

    /** All calls of a run share one room, so no call may make objects. */
    private static void room() {
        com.sun.management.ThreadMXBean bean = (com.sun.management.ThreadMXBean) ManagementFactory.getThreadMXBean();
        FusionRules x = new FusionRules();
        long thread = Thread.currentThread().getId();
        dearCalls(x, 2);
        long ahead = bean.getThreadAllocatedBytes(thread);
        dearCalls(x, 100);
        long bytes = bean.getThreadAllocatedBytes(thread) - ahead;
        CHECK.holds("2400 calls make no objects, but made " + bytes + " bytes", bytes < 2400);
        ahead = bean.getThreadAllocatedBytes(thread);
        FusionRules y = new FusionRules();
        bytes = bean.getThreadAllocatedBytes(thread) - ahead;
        CHECK.holds("an object is small, but took " + bytes + " bytes", bytes < 16384 && y.of(1) == 2);
    }

    /** Each method with all rows of odd arguments, in states of all KINDS and SIZES: none may throw. */
    private static void neverThrows() {
        int[] odd = {Integer.MIN_VALUE, -1, 0, 1, 4, 5, 12, 31, Integer.MAX_VALUE};
        for (int state = 0; state < 25; state++) {
            for (Method method : FusionRules.class.getMethods()) {
                if (method.getDeclaringClass() == FusionRules.class) {
                    FusionRules x = new FusionRules();
                    x.set(0, state % 5);
                    x.set(1, 1 + state / 5);
                    x.list(0, 12);
                    callWithAll(x, method, odd);
                }
            }
        }
    }

    private static void callWithAll(FusionRules x, Method method, int[] odd) {
        Class<?>[] types = method.getParameterTypes();
        int rows = (int) Math.pow(odd.length, types.length);
        for (int row = 0; row < Math.min(rows, 2000); row++) {
            Object[] values = new Object[types.length];
            int rest = rows > 2000 ? row * 29 : row;
            for (int i = 0; i < types.length; i++) {
                int value = odd[rest % odd.length];
                values[i] = types[i] == long.class ? (Object) Long.valueOf(value) : (Object) Integer.valueOf(value);
                rest /= odd.length;
            }
            try {
                method.invoke(x, values);
            } catch (ReflectiveOperationException fault) {
                CHECK.holds(method + " threw " + fault.getCause() + " with row " + row, false);
            }
        }
        CHECK.holds(method + " was called", rows > 0);
    }

    public static void main(String[] args) throws IOException {
        face();
        language();
        room();
        neverThrows();
        CHECK.end("FaceTest");
    }
}
