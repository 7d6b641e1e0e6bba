import java.lang.reflect.Constructor;
import java.lang.reflect.Field;
import java.lang.reflect.Method;
import java.lang.reflect.Modifier;
import java.util.Arrays;
import java.util.TreeSet;

/** The face of the class is the document's: nothing is missing, and nothing more can be seen. */
public final class HyphenRowsFace {
    private static final String[] FACE = {
        "final class HyphenRows",
        "HyphenRows()",
        "int BAD = -1",
        "int FULL = -2",
        "int NO = -3",
        "int at(int)",
        "int clear()",
        "int code(int, int, int, boolean)",
        "int digit(int, int)",
        "int drop(int)",
        "int ends(int, int, int, boolean)",
        "int exception(int, int)",
        "int exceptions()",
        "int language()",
        "int next(int, int)",
        "int pattern(int, int)",
        "int patterns()",
        "int run(int)",
        "int sign(int)",
    };

    public static void main(String[] args) throws IllegalAccessException {
        TreeSet<String> due = new TreeSet<>(Arrays.asList(FACE));
        TreeSet<String> seen = seenFace();
        boolean same = due.equals(seen);
        System.out.println(same ? "the face is as due" : "the face is " + seen + ", due is " + due);
        if (!same) {
            System.exit(1);
        }
    }

    private static TreeSet<String> seenFace() throws IllegalAccessException {
        TreeSet<String> seen = new TreeSet<>();
        seen.add((Modifier.isFinal(HyphenRows.class.getModifiers()) ? "final " : "") + "class HyphenRows");
        for (Constructor<?> made : HyphenRows.class.getDeclaredConstructors()) {
            if (!Modifier.isPrivate(made.getModifiers())) {
                seen.add("HyphenRows(" + types(made.getParameterTypes()) + ")");
            }
        }
        for (Method method : HyphenRows.class.getDeclaredMethods()) {
            if (!Modifier.isPrivate(method.getModifiers())) {
                seen.add(method.getReturnType() + " " + method.getName() + "(" + types(method.getParameterTypes()) + ")");
            }
        }
        for (Field field : HyphenRows.class.getDeclaredFields()) {
            if (!Modifier.isPrivate(field.getModifiers())) {
                boolean constant = Modifier.isStatic(field.getModifiers()) && Modifier.isFinal(field.getModifiers());
                seen.add(field.getType() + " " + field.getName() + (constant ? " = " + field.get(null) : ""));
            }
        }
        return seen;
    }

    private static String types(Class<?>[] types) {
        StringBuilder text = new StringBuilder();
        for (Class<?> type : types) {
            text.append(text.length() == 0 ? "" : ", ").append(type);
        }
        return text.toString();
    }
}
