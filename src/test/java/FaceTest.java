import java.lang.reflect.Constructor;
import java.lang.reflect.Field;
import java.lang.reflect.Method;
import java.lang.reflect.Modifier;
import java.util.Arrays;
import java.util.HashSet;
import java.util.List;
import java.util.Set;
import java.util.TreeSet;

/** The class shows the document's face and nothing else. */
public final class FaceTest {
    private static final List<String> METHODS = List.of(
            "int things(int)", "int swap(int, int)", "int second(int)", "int heap(int, int, int)", "int drop()",
            "int has(int, int)", "int bits(int)", "int hold(int, int)", "int off(int, int)", "int worst(int)",
            "int squares(int)", "int times()", "int least()", "int first()", "int many()", "int fewest()",
            "int turns()", "int pairs()", "int come()", "int step(int, int)", "int clear()", "int stray(int)",
            "int straight(int)", "int count(int)", "long trace()");

    private static final Checks checks = new Checks();

    public static void main(String[] args) {
        int classModifiers = TwoColours.class.getModifiers();
        checks.due("class modifiers", Modifier.toString(classModifiers), "public final");
        methods();
        fields();
        constructors();
        checks.end();
    }

    private static void methods() {
        Set<String> shown = new TreeSet<>();
        Set<String> shownNames = new HashSet<>();
        for (Method method : TwoColours.class.getDeclaredMethods()) {
            if (!Modifier.isPrivate(method.getModifiers())) {
                shown.add(signature(method));
                shownNames.add(method.getName());
                checks.due(method.getName() + " modifiers", Modifier.toString(method.getModifiers()), "public");
            }
        }
        checks.due("methods", shown.toString(), new TreeSet<>(METHODS).toString());
        for (Method method : TwoColours.class.getDeclaredMethods()) {
            if (Modifier.isPrivate(method.getModifiers()) && shownNames.contains(method.getName())) {
                checks.report("a private method bears the public name " + method.getName());
            }
        }
    }

    private static String signature(Method method) {
        String parameters = Arrays.toString(method.getParameterTypes());
        return method.getReturnType() + " " + method.getName()
                + "(" + parameters.substring(1, parameters.length() - 1) + ")";
    }

    private static void fields() {
        Set<String> shown = new TreeSet<>();
        for (Field field : TwoColours.class.getDeclaredFields()) {
            int modifiers = field.getModifiers();
            if (!Modifier.isPrivate(modifiers)) {
                shown.add(Modifier.toString(modifiers) + " " + field.getType() + " " + field.getName());
            }
            if (Modifier.isStatic(modifiers) && !Modifier.isFinal(modifiers)) {
                checks.report("the static field " + field.getName() + " is not final");
            }
        }
        String constant = "public static final int ";
        checks.due("fields", shown.toString(), new TreeSet<>(List.of(
                constant + "BAD", constant + "STATE", constant + "FULL", constant + "NONE")).toString());
        checks.due("BAD", TwoColours.BAD, -1);
        checks.due("STATE", TwoColours.STATE, -2);
        checks.due("FULL", TwoColours.FULL, -3);
        checks.due("NONE", TwoColours.NONE, -9);
    }

    private static void constructors() {
        Constructor<?>[] all = TwoColours.class.getDeclaredConstructors();
        checks.due("constructors", all.length, 1);
        checks.due("constructor", all[0].toString(), "public TwoColours()");
    }
}
