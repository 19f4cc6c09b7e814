import java.lang.reflect.Constructor;
import java.lang.reflect.Field;
import java.lang.reflect.Method;
import java.lang.reflect.Modifier;
import java.util.Arrays;
import java.util.List;
import java.util.Set;
import java.util.TreeSet;

/** The public face as the document has it: the class, its constants, its constructor, its methods. */
public final class FaceTest {
    private static final Check check = new Check("FaceTest");
    private static final Set<String> FACE = new TreeSet<>(List.of("thing 4", "leave 1", "focus 1", "take 3", "retouch 3",
        "burn 1", "say 1", "wipe 0", "fault 0", "judge 1", "kinds 1", "kind 2", "shift 3", "near 3", "match 2", "stood 2",
        "forged 2", "ahead 2", "missing 3", "eyes 0", "late 7", "past 3", "best 2", "year 3", "image 1", "restore 1",
        "told 1"));
    private static final Set<String> CONSTANTS =
        new TreeSet<>(List.of("UNKNOWN", "OUTSIDE", "STATE", "FULL", "NO", "NONE", "GONE"));

    public static void main(String[] args) {
        constants();
        face();
        check.end();
    }

    private static void constants() {
        check.due("UNKNOWN", StereoWar.UNKNOWN, -1);
        check.due("OUTSIDE", StereoWar.OUTSIDE, -2);
        check.due("STATE", StereoWar.STATE, -3);
        check.due("FULL", StereoWar.FULL, -4);
        check.due("NO", StereoWar.NO, -5);
        check.due("NONE", StereoWar.NONE, -6);
        check.due("GONE", StereoWar.GONE, -1000000000000000000L);
    }

    private static void face() {
        check.fine("the class is not public and final",
            Modifier.isPublic(StereoWar.class.getModifiers()) && Modifier.isFinal(StereoWar.class.getModifiers()));
        Set<String> methods = new TreeSet<>();
        for (Method method : StereoWar.class.getDeclaredMethods()) {
            if (Modifier.isPublic(method.getModifiers())) {
                methods.add(method.getName() + " " + method.getParameterCount());
                Class<?> due = method.getName().equals("late") ? long.class : int.class;
                check.fine(method + " answers otherwise", method.getReturnType() == due);
                check.fine(method + " is static or asks otherwise", !Modifier.isStatic(method.getModifiers())
                    && Arrays.stream(method.getParameterTypes()).allMatch(type -> type == int.class));
            } else {
                check.fine(method + " is not private", Modifier.isPrivate(method.getModifiers()));
            }
        }
        check.fine("methods are " + methods, methods.equals(FACE));
        Set<String> fields = new TreeSet<>();
        for (Field field : StereoWar.class.getDeclaredFields()) {
            if (Modifier.isPublic(field.getModifiers())) {
                fields.add(field.getName());
            } else {
                check.fine(field + " is not private", Modifier.isPrivate(field.getModifiers()));
            }
            check.fine(field + " is static and not final",
                !Modifier.isStatic(field.getModifiers()) || Modifier.isFinal(field.getModifiers()));
        }
        check.fine("constants are " + fields, fields.equals(CONSTANTS));
        Constructor<?>[] constructors = StereoWar.class.getDeclaredConstructors();
        check.fine("constructors are " + Arrays.toString(constructors), constructors.length == 1
            && constructors[0].getParameterCount() == 0 && Modifier.isPublic(constructors[0].getModifiers()));
    }
}
