import java.lang.reflect.Constructor;
import java.lang.reflect.Field;
import java.lang.reflect.Method;
import java.lang.reflect.Modifier;
import java.util.ArrayList;
import java.util.List;
import java.util.Set;
import java.util.StringJoiner;
import java.util.TreeSet;

/** The class shows the document's face and nothing else. */
public final class FaceTest {
    private static final String UNKNOWN = "IllegalArgumentException";
    private static final String UNKNOWN_RANGE = "IllegalArgumentException, IndexOutOfBoundsException";
    private static final Set<String> FACE = Set.of(
            "public int close(int, int, int, int, int, int) throws " + UNKNOWN_RANGE
                    + ", UnsupportedOperationException",
            "public void answer(int, boolean) throws " + UNKNOWN + ", IllegalStateException",
            "public boolean lift(int, int) throws " + UNKNOWN_RANGE + ", IllegalStateException",
            "public void incident(int, boolean) throws " + UNKNOWN,
            "public int step(int, int, int) throws " + UNKNOWN_RANGE + ", UnsupportedOperationException",
            "public int tick(int) throws IndexOutOfBoundsException",
            "public int clock()",
            "public boolean closed(int, int, int) throws " + UNKNOWN_RANGE,
            "public int minutes(int, int, int, int) throws " + UNKNOWN_RANGE,
            "public int opens(int, int, int) throws " + UNKNOWN_RANGE,
            "public int reason(int, int, int, int) throws " + UNKNOWN_RANGE,
            "public int speed(int, int, int) throws " + UNKNOWN_RANGE,
            "public int notice(int, int) throws " + UNKNOWN,
            "public int blocked(int) throws " + UNKNOWN);

    public static void main(String[] args) {
        Due due = new Due();
        due.by("The public face");
        theClass(due);
        theConstructor(due);
        theMethods(due);
        noPrivateMethodWithAPublicName(due);
        noFieldIsShown(due);
        theClassesInside(due);
        due.end();
    }

    private static void theClass(Due due) {
        Class<?> face = ClosureRows.class;
        due.is("its name without a package", face.getName().equals("ClosureRows"), true);
        due.is("public and final", face.getModifiers(), Modifier.PUBLIC | Modifier.FINAL);
        due.is("it stands below Object alone", face.getSuperclass() == Object.class, true);
        due.is("interfaces", face.getInterfaces().length, 0);
    }

    private static void theConstructor(Due due) {
        Constructor<?>[] made = ClosureRows.class.getDeclaredConstructors();
        due.is("constructors", made.length, 1);
        due.is("the constructor is public", made[0].getModifiers(), Modifier.PUBLIC);
        due.is("what it takes", made[0].getParameterCount(), 0);
        due.is("what it throws", made[0].getExceptionTypes().length, 0);
    }

    private static void theMethods(Due due) {
        Set<String> shown = new TreeSet<>();
        for (Method method : ClosureRows.class.getDeclaredMethods()) {
            if (!Modifier.isPrivate(method.getModifiers())) {
                shown.add(signatureOf(method));
            }
        }
        for (String method : shown) {
            if (!FACE.contains(method)) {
                due.tell("shown, but not of the face: " + method);
            }
        }
        for (String method : FACE) {
            if (!shown.contains(method)) {
                due.tell("of the face, but not shown: " + method);
            }
        }
    }

    private static String signatureOf(Method method) {
        String thrown = namesOf(method.getExceptionTypes());
        return Modifier.toString(method.getModifiers()) + " " + method.getReturnType() + " " + method.getName()
                + "(" + namesOf(method.getParameterTypes()) + ")" + (thrown.isEmpty() ? "" : " throws " + thrown);
    }

    private static String namesOf(Class<?>[] types) {
        StringJoiner names = new StringJoiner(", ");
        for (Class<?> type : types) {
            names.add(type.getSimpleName());
        }
        return names.toString();
    }

    private static void noPrivateMethodWithAPublicName(Due due) {
        for (Class<?> type : classesOf()) {
            for (Method method : type.getDeclaredMethods()) {
                boolean shown = Modifier.isPublic(method.getModifiers());
                boolean namedSo = FACE.stream().anyMatch(f -> f.contains(" " + method.getName() + "("));
                due.is(type.getName() + "." + method.getName() + " bears a public name", namedSo, shown);
            }
        }
    }

    private static void noFieldIsShown(Due due) {
        for (Field field : ClosureRows.class.getDeclaredFields()) {
            due.is(field.getName() + " is private", Modifier.isPrivate(field.getModifiers()), true);
        }
    }

    private static void theClassesInside(Due due) {
        for (Class<?> inside : ClosureRows.class.getDeclaredClasses()) {
            int modifiers = inside.getModifiers();
            due.is(inside.getName() + " is static", Modifier.isStatic(modifiers), true);
            due.is(inside.getName() + " is shown", Modifier.isPublic(modifiers) || Modifier.isProtected(modifiers),
                    false);
        }
        for (Class<?> type : classesOf()) {
            for (Field field : type.getDeclaredFields()) {
                boolean changes = Modifier.isStatic(field.getModifiers()) && !Modifier.isFinal(field.getModifiers());
                due.is(type.getName() + "." + field.getName() + " is static and changes", changes, false);
            }
        }
    }

    private static List<Class<?>> classesOf() {
        List<Class<?>> all = new ArrayList<>(List.of(ClosureRows.class.getDeclaredClasses()));
        all.add(ClosureRows.class);
        return all;
    }
}
