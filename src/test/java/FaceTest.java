import java.lang.reflect.Constructor;
import java.lang.reflect.Field;
import java.lang.reflect.Method;
import java.lang.reflect.Modifier;
import java.util.Set;
import java.util.TreeSet;

/** The class's face: the members that the document lists, with what they throw, and no others but private ones. */
public final class FaceTest {
    private static final String[] FACE = {
        "int turn(int, int) IndexOutOfBoundsException IllegalArgumentException",
        "int play(int, int) IndexOutOfBoundsException IllegalArgumentException IllegalStateException",
        "int reset()",
        "int say(int, int, int) IndexOutOfBoundsException IllegalArgumentException IllegalStateException",
        "int wipe(int) IndexOutOfBoundsException",
        "int round(int) IndexOutOfBoundsException",
        "int join(int, int) IndexOutOfBoundsException IllegalStateException",
        "int tidy(int) IndexOutOfBoundsException",
        "int told(int, int) IndexOutOfBoundsException",
        "int where(int) IndexOutOfBoundsException",
        "int count(int) IndexOutOfBoundsException",
        "int word(int, int) IndexOutOfBoundsException",
        "int at(int, int) IndexOutOfBoundsException",
        "boolean same(int, int) IndexOutOfBoundsException",
        "int mixed(int, int) IndexOutOfBoundsException",
        "int would(int, int) IndexOutOfBoundsException IllegalArgumentException",
        "int far(int) IllegalArgumentException",
        "int first(int) IllegalArgumentException",
        "int shortest(int, int) IndexOutOfBoundsException IllegalArgumentException",
        "int advise()",
        "double mean()",
        "long digest()",
    };

    private static int wrong = 0;

    private static void due(boolean holds, String what) {
        if (!holds) {
            wrong++;
            System.out.println(what);
        }
    }

    private static String asText(Method method) {
        StringBuilder text = new StringBuilder();
        text.append(method.getReturnType().getSimpleName()).append(' ').append(method.getName()).append('(');
        for (Class<?> type : method.getParameterTypes()) {
            text.append(text.charAt(text.length() - 1) == '(' ? "" : ", ").append(type.getSimpleName());
        }
        text.append(')');
        for (Class<?> type : method.getExceptionTypes()) {
            text.append(' ').append(type.getSimpleName());
        }
        return text.toString();
    }

    private static void methods() {
        Set<String> want = new TreeSet<>(Set.of(FACE));
        Set<String> publicNames = new TreeSet<>();
        for (Method method : CornerCube.class.getDeclaredMethods()) {
            int modifiers = method.getModifiers();
            if (Modifier.isPublic(modifiers)) {
                publicNames.add(method.getName());
                due(want.remove(asText(method)), "not of the face: " + asText(method));
                due(!Modifier.isStatic(modifiers), "static: " + asText(method));
            } else {
                due(Modifier.isPrivate(modifiers), "neither public nor private: " + asText(method));
            }
        }
        due(want.isEmpty(), "missing of the face: " + want);
        for (Method method : CornerCube.class.getDeclaredMethods()) {
            due(Modifier.isPublic(method.getModifiers()) || !publicNames.contains(method.getName()),
                    "a private method with a public one's name: " + asText(method));
        }
    }

    private static void fields() {
        for (Field field : CornerCube.class.getDeclaredFields()) {
            due(Modifier.isPrivate(field.getModifiers()), "a field that is not private: " + field.getName());
            due(!Modifier.isStatic(field.getModifiers()) || Modifier.isFinal(field.getModifiers()),
                    "a static field that is not final: " + field.getName());
        }
    }

    private static void constructors() {
        Constructor<?>[] all = CornerCube.class.getDeclaredConstructors();
        due(all.length == 1 && Modifier.isPublic(all[0].getModifiers()) && all[0].getParameterCount() == 0,
                "the constructors are not the one of the face");
    }

    public static void main(String[] args) {
        int modifiers = CornerCube.class.getModifiers();
        due(Modifier.isPublic(modifiers) && Modifier.isFinal(modifiers), "the class is not public and final");
        methods();
        fields();
        constructors();
        System.out.println(wrong == 0 ? "the face is as due" : wrong + " faults of the face");
        if (wrong != 0) {
            System.exit(1);
        }
    }
}
