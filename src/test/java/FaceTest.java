import java.lang.reflect.Field;
import java.lang.reflect.Method;
import java.lang.reflect.Modifier;
import java.util.Arrays;
import java.util.List;
import java.util.Set;
import java.util.TreeSet;

/** The class shows the document's face and nothing else. */
public final class FaceTest {
    private static final List<String> FACE = List.of(
            "int close(int, int, int, int, int, int)", "void answer(int, boolean)", "boolean lift(int, int)",
            "void incident(int, boolean)", "int step(int, int, int)", "int tick(int)", "int clock()",
            "boolean closed(int, int, int)", "int minutes(int, int, int, int)", "int opens(int, int, int)",
            "int reason(int, int, int, int)", "int speed(int, int, int)", "int notice(int, int)", "int blocked(int)");

    public static void main(String[] args) {
        Due due = new Due();
        Class<ClosureRows> face = ClosureRows.class;
        int modifiers = Modifier.PUBLIC | Modifier.FINAL;
        due.is("public and final", face.getModifiers() & modifiers, modifiers);
        due.is("constructors", face.getDeclaredConstructors().length, 1);
        due.is("public constructors", face.getConstructors().length, 1);

        Set<String> shown = new TreeSet<>();
        for (Method method : face.getDeclaredMethods()) {
            if (!Modifier.isPrivate(method.getModifiers())) {
                String takes = Arrays.toString(method.getParameterTypes());
                takes = takes.substring(1, takes.length() - 1);
                shown.add(method.getReturnType() + " " + method.getName() + "(" + takes + ")");
            }
        }
        if (!shown.equals(new TreeSet<>(FACE))) {
            due.tell("the methods shown are " + shown);
        }
        for (Field field : face.getDeclaredFields()) {
            due.is(field.getName() + " is private", Modifier.isPrivate(field.getModifiers()), true);
        }
        due.end();
    }
}
