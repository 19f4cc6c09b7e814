import java.io.IOException;
import java.lang.reflect.Constructor;
import java.lang.reflect.Field;
import java.lang.reflect.Method;
import java.lang.reflect.Modifier;
import java.nio.file.Files;
import java.nio.file.Path;
import java.util.Arrays;
import java.util.List;
import java.util.Set;
import java.util.TreeSet;
import java.util.regex.Pattern;

/** The public face, the constants, and what of LANGUAGE.md can be seen from outside or in the text. */
public final class FaceTest {
    private static final Check check = new Check("FaceTest");
    private static final Path SOURCE = Path.of("src/main/java/StereoWar.java");
    private static final Set<String> FACE = new TreeSet<>(List.of("thing 4", "leave 1", "focus 1", "take 3", "retouch 3",
        "burn 1", "say 1", "wipe 0", "fault 0", "judge 1", "kinds 1", "kind 2", "shift 3", "near 3", "match 2", "stood 2",
        "forged 2", "ahead 2", "missing 3", "eyes 0", "late 7", "past 3", "best 2", "year 3", "image 1", "restore 1",
        "told 1"));
    private static final Set<String> CONSTANTS =
        new TreeSet<>(List.of("UNKNOWN", "OUTSIDE", "STATE", "FULL", "NO", "NONE", "GONE"));

    public static void main(String[] args) throws IOException {
        constants();
        face();
        classesInside();
        String source = Files.readString(SOURCE).replaceAll("(?s)/\\*.*?\\*/", "").replaceAll("//[^\n]*", "");
        words(source);
        objectsMade(source);
        methodLengths(Files.readAllLines(SOURCE));
        check.end();
    }

    private static void constants() {
        check.due("UNKNOWN", StereoWar.UNKNOWN, -1);
        check.due("OUTSIDE", StereoWar.OUTSIDE, -2);
        check.due("STATE", StereoWar.STATE, -3);
        check.due("FULL", StereoWar.FULL, -4);
        check.due("NO", StereoWar.NO, -5);
        check.due("NONE", StereoWar.NONE, -6);
        check.due("GONE", StereoWar.GONE, -1000000000000000000L);
    }

    private static void face() {
        check.fine("the class is not public and final",
            Modifier.isPublic(StereoWar.class.getModifiers()) && Modifier.isFinal(StereoWar.class.getModifiers()));
        Set<String> methods = new TreeSet<>();
        for (Method method : StereoWar.class.getDeclaredMethods()) {
            if (Modifier.isPublic(method.getModifiers())) {
                methods.add(method.getName() + " " + method.getParameterCount());
                Class<?> due = method.getName().equals("late") ? long.class : int.class;
                check.fine(method + " answers otherwise", method.getReturnType() == due);
            } else {
                privateMethod(method);
            }
        }
        check.fine("methods are " + methods, methods.equals(FACE));
        Set<String> fields = new TreeSet<>();
        for (Field field : StereoWar.class.getDeclaredFields()) {
            if (Modifier.isPublic(field.getModifiers())) {
                fields.add(field.getName());
            } else {
                check.fine(field + " is not private", Modifier.isPrivate(field.getModifiers()));
            }
            check.fine(field + " is static and not final",
                !Modifier.isStatic(field.getModifiers()) || Modifier.isFinal(field.getModifiers()));
        }
        check.fine("constants are " + fields, fields.equals(CONSTANTS));
        Constructor<?>[] constructors = StereoWar.class.getDeclaredConstructors();
        check.fine("constructors are " + Arrays.toString(constructors), constructors.length == 1
            && constructors[0].getParameterCount() == 0 && Modifier.isPublic(constructors[0].getModifiers()));
    }

    private static void privateMethod(Method method) {
        check.fine(method + " is not private", Modifier.isPrivate(method.getModifiers()));
        check.fine(method + " has too many parameters", method.getParameterCount() <= 7);
        check.fine(method + " bears the name of a public one",
            FACE.stream().noneMatch(name -> name.startsWith(method.getName() + " ")));
    }

    private static void classesInside() {
        Class<?>[] inside = StereoWar.class.getDeclaredClasses();
        check.fine("too many classes", inside.length < 12);
        for (Class<?> one : inside) {
            int modifiers = one.getModifiers();
            check.fine(one + " is not private and static", Modifier.isPrivate(modifiers) && Modifier.isStatic(modifiers));
            check.fine(one + " has too many fields", one.getDeclaredFields().length <= 20);
            for (Method method : one.getDeclaredMethods()) {
                privateMethod(method);
            }
        }
    }

    private static void words(String source) {
        String[] ruledOut = {"\\bthrow\\b", "\\btry\\b", "\\bcatch\\b", "\\bsynchronized\\b", "\\bassert\\b", "\\bimport\\b",
            "\\bpackage\\b", "->", "::", "\\bdouble\\b", "\\bfloat\\b", "\\bSystem\\b", "\\bObject\\b", "Exact\\b", "\""};
        for (String word : ruledOut) {
            check.fine("the source has " + word, !Pattern.compile(word).matcher(source).find());
        }
        check.fine("the source has signs beyond 127", source.chars().allMatch(sign -> sign < 128));
    }

    /** All is made with the object: in initialisers of fields and in the loops of constructors. */
    private static void objectsMade(String source) {
        for (String line : source.split("\n")) {
            if (line.contains("new ")) {
                check.fine("made elsewhere: " + line.strip(), line.strip().startsWith("private final ")
                    || Pattern.matches(" +\\w+\\[[ik]\\] = new (Scene|Thing|Picture)\\(\\);", line));
            }
        }
    }

    private static void methodLengths(List<String> lines) {
        for (int start = 0; start < lines.size(); start++) {
            String line = lines.get(start);
            if (!line.matches("( {4}| {8})(public|private) [^=]*\\) \\{")) {
                continue;
            }
            String end = line.substring(0, line.indexOf('p')) + "}";
            int last = start;
            while (last < lines.size() && !lines.get(last).equals(end)) {
                last++;
            }
            check.fine("too long: " + line.strip(), last - start < 60);
        }
    }
}
