import java.lang.reflect.Array;
import java.lang.reflect.Field;
import java.lang.reflect.Modifier;
import java.util.IdentityHashMap;
import java.util.Map;

/** What hangs on an object when it is new is what hangs on it when all rows are full. */
public final class TermsRowsMadeOnceTest {
    public static void main(String[] args) throws IllegalAccessException {
        Due due = new Due();
        due.by("All memory is rows made once.");
        ClosureRows x = new ClosureRows();
        Map<Object, Boolean> before = partsOf(x);
        int rows = elementsOf(before);
        useAll(x);
        Map<Object, Boolean> after = partsOf(x);
        due.is("objects and rows", after.size(), before.size());
        due.is("the same ones", before.keySet().containsAll(after.keySet()), true);
        due.is("elements of all rows", elementsOf(after), rows);
        due.is("elements of full rows", elementsOf(partsOf(Rows.full())), rows);
        due.end();
    }

    private static void useAll(ClosureRows x) {
        for (int n = 0; n < 100; n++) {
            x.close(n % 6, n % 60, 3, 0, 50, Due.goodX(n % 6));
        }
        for (int n = 0; n < 120; n++) {
            x.step(n % 10, n % 60, 1);
        }
        x.answer(Due.EVENT, true);
        x.incident(Due.goodX(Due.SCENE), true);
        x.lift(Due.FLOOD, 0);
        x.lift(Due.FLOOD, 1);
        x.tick(2_000);
        x.closed(0, 1, 0);
        x.minutes(0, 1, 0, 2_000);
        x.opens(0, 1, 0);
        x.reason(0, 1, 0, 1);
        x.speed(0, 1, 0);
        x.notice(0, 0);
        x.blocked(0);
    }

    private static Map<Object, Boolean> partsOf(Object root) throws IllegalAccessException {
        Map<Object, Boolean> parts = new IdentityHashMap<>();
        collect(root, parts);
        return parts;
    }

    private static void collect(Object part, Map<Object, Boolean> parts) throws IllegalAccessException {
        if (part == null || parts.put(part, true) != null || part.getClass().isArray()) {
            return;
        }
        for (Field field : part.getClass().getDeclaredFields()) {
            if (!Modifier.isStatic(field.getModifiers()) && !field.getType().isPrimitive()) {
                field.setAccessible(true);
                collect(field.get(part), parts);
            }
        }
    }

    private static int elementsOf(Map<Object, Boolean> parts) {
        int sum = 0;
        for (Object part : parts.keySet()) {
            sum += part.getClass().isArray() ? Array.getLength(part) : 0;
        }
        return sum;
    }
}
