import java.io.IOException;
import java.lang.reflect.Field;
import java.lang.reflect.Method;
import java.lang.reflect.Modifier;
import java.nio.file.Files;
import java.nio.file.Path;
import java.util.ArrayList;
import java.util.Arrays;
import java.util.LinkedHashSet;
import java.util.List;
import java.util.Set;
import java.util.TreeSet;
import java.util.regex.Matcher;
import java.util.regex.Pattern;
import java.util.stream.Stream;

/** README.md holds: its example's answers, its calls and their refusals as the document has them, its list of tests. */
public final class ReadmeTest {
    private static final Check check = new Check("ReadmeTest");
    private static final Path README = Path.of("README.md"), DOCUMENT = Path.of("../shared/DOC.md");
    private static final Path TESTS = Path.of("src/test/java"), RUN = Path.of(".ci/run");
    private static final Pattern CALL = Pattern.compile("war\\.(\\w+)\\((.*)\\); +// ([A-Z]+|-?\\d+): .+");
    private static final Pattern FACE_LINE = Pattern.compile("public (?:int|long) (\\w+)\\((.*)\\);");
    private static final Pattern PROMISE = Pattern.compile("`(?:int|long) (\\w+)\\(.*?\\)`: (.*)");
    private static final Pattern REFUSAL = Pattern.compile("\\b(UNKNOWN|OUTSIDE|STATE|FULL|NO)\\b");
    private static final Pattern ROW_OF_A_CALL = Pattern.compile("\\| `(\\w+\\(.*?\\))` \\| (.*) \\| ?(.*) ?\\|");

    public static void main(String[] args) throws IOException, ReflectiveOperationException {
        List<String> readme = Files.readAllLines(README);
        List<String> document = Files.readAllLines(DOCUMENT);
        example(readme);
        calls(readme, document);
        refusals(readme, document);
        constants(readme);
        tests(readme);
        check.end();
    }

    /** Each call of the example answers what stands behind it; no call of the face is left out. */
    private static void example(List<String> readme) throws ReflectiveOperationException {
        Set<String> called = new TreeSet<>();
        StereoWar war = null;
        for (String line : between(readme, "```java", "```")) {
            if (line.equals("StereoWar war = new StereoWar();")) {
                war = new StereoWar();
                continue;
            }
            Matcher call = CALL.matcher(line);
            check.fine("no call with its answer: " + line, line.isEmpty() || call.matches() && war != null);
            if (!line.isEmpty() && call.matches() && war != null) {
                called.add(call.group(1));
                check.due(line, answer(war, call.group(1), call.group(2)), number(call.group(3)));
            }
        }
        Set<String> all = new TreeSet<>();
        publicMethods().forEach(method -> all.add(method.getName()));
        check.fine("the example calls " + called, called.equals(all));
    }

    private static List<String> between(List<String> lines, String from, String to) {
        List<String> inside = new ArrayList<>();
        boolean in = false;
        for (String line : lines) {
            if (!in && line.equals(from)) {
                in = true;
            } else if (in && line.equals(to)) {
                in = false;
            } else if (in) {
                inside.add(line);
            }
        }
        return inside;
    }

    private static List<Method> publicMethods() {
        return Arrays.stream(StereoWar.class.getDeclaredMethods())
            .filter(method -> Modifier.isPublic(method.getModifiers())).toList();
    }

    private static long answer(StereoWar war, String name, String numbers) throws ReflectiveOperationException {
        Object[] given = Arrays.stream(numbers.split(", ")).filter(text -> !text.isEmpty())
            .map(text -> (Object) (int) number(text)).toArray();
        for (Method method : publicMethods()) {
            if (method.getName().equals(name) && method.getParameterCount() == given.length) {
                return ((Number) method.invoke(war, given)).longValue();
            }
        }
        check.fine("there is no call " + name + " of " + given.length, false);
        return Long.MIN_VALUE;
    }

    /** A number, a sign in marks, or a constant by its name. */
    private static long number(String text) {
        if (text.matches("'.'")) {
            return text.charAt(1);
        }
        return text.matches("-?\\d+") ? Long.parseLong(text) : constant(text);
    }

    private static long constant(String name) {
        try {
            return ((Number) StereoWar.class.getField(name).get(null)).longValue();
        } catch (ReflectiveOperationException none) {
            throw new IllegalArgumentException("no such constant: " + name);
        }
    }

    /** The table has the calls of the document's face, with its names, in its order. */
    private static void calls(List<String> readme, List<String> document) {
        List<String> due = new ArrayList<>();
        for (String line : document) {
            Matcher face = FACE_LINE.matcher(line.strip());
            if (face.matches()) {
                due.add(face.group(1) + "(" + face.group(2).replaceAll("\\bint ", "") + ")");
            }
        }
        List<String> told = new ArrayList<>();
        for (String line : readme) {
            Matcher row = ROW_OF_A_CALL.matcher(line);
            if (row.matches()) {
                told.add(row.group(1));
            }
        }
        check.due("calls of the document", due.size(), 27);
        check.fine("calls are " + told, told.equals(due));
    }

    /** The table has each call's refusals in the document's order. */
    private static void refusals(List<String> readme, List<String> document) {
        int promises = 0;
        for (String line : document) {
            Matcher promise = PROMISE.matcher(line);
            if (promise.matches()) {
                promises++;
                Set<String> due = refusalsIn(promise.group(2));
                Set<String> told = refusalsOf(readme, promise.group(1));
                check.fine(promise.group(1) + " is refused with " + told + ", due is " + due,
                    List.copyOf(due).equals(List.copyOf(told)));
            }
        }
        check.due("promises with a call", promises, 27);
    }

    private static Set<String> refusalsIn(String text) {
        Set<String> names = new LinkedHashSet<>();
        Matcher refusal = REFUSAL.matcher(text);
        while (refusal.find()) {
            names.add(refusal.group(1));
        }
        return names;
    }

    private static Set<String> refusalsOf(List<String> readme, String name) {
        for (String line : readme) {
            Matcher row = ROW_OF_A_CALL.matcher(line);
            if (row.matches() && row.group(1).startsWith(name + "(")) {
                return refusalsIn(row.group(3));
            }
        }
        return Set.of("no row");
    }

    private static void constants(List<String> readme) throws ReflectiveOperationException {
        for (Field field : StereoWar.class.getFields()) {
            String row = "| `" + field.getName() + "` | " + field.get(null) + " | ";
            check.fine("no row " + row, readme.stream().anyMatch(line -> line.startsWith(row)));
        }
    }

    /** Every test is named, and every file with a main is one that .ci/run takes. */
    private static void tests(List<String> readme) throws IOException {
        String text = String.join("\n", readme);
        Set<String> named = new TreeSet<>();
        Matcher name = Pattern.compile("`(\\w+Test)`").matcher(text);
        while (name.find()) {
            named.add(name.group(1));
        }
        Set<String> found = new TreeSet<>();
        try (Stream<Path> files = Files.walk(TESTS)) {
            for (Path file : files.filter(Files::isRegularFile).toList()) {
                if (Files.readString(file).contains("public static void main(String[]")) {
                    String test = file.getFileName().toString().replace(".java", "");
                    found.add(test);
                    check.fine(file + " is not run", test.endsWith("Test") && file.getParent().equals(TESTS));
                }
            }
        }
        check.fine("tests named are " + named + ", found are " + found, named.equals(found));
        check.fine("no way to run the tests", Files.isRegularFile(RUN) && text.contains("\n    .ci/run\n"));
    }
}
