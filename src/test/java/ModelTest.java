import java.lang.reflect.InvocationTargetException;
import java.lang.reflect.Method;
import java.lang.reflect.Modifier;
import java.util.Arrays;
import java.util.HashMap;
import java.util.List;
import java.util.Map;
import java.util.Random;

/** Long runs of calls, drawn from fixed seeds, on a ClosureRows and on a Model: each answer must be the same. */
public final class ModelTest {
    private static final int RUNS = 100;
    private static final int CALLS = 512;
    /** Closures, steps and notices are drawn more often, so that the rows fill. */
    private static final List<String> NAMES = List.of(
            "close", "close", "answer", "lift", "incident", "step", "step", "tick", "clock", "closed",
            "minutes", "opens", "reason", "speed", "notice", "notice", "notice", "blocked");
    private static final Map<Class<?>, Map<String, Method>> FACE = Map.of(
            ClosureRows.class, methodsOf(ClosureRows.class), Model.class, methodsOf(Model.class));
    private static final int[] WRONG = {
        Integer.MIN_VALUE, -2, -1, 0, 4, 10, 13, 20, 60, 101, 1000, 2001, 100_000, Integer.MAX_VALUE,
    };

    private final Random random;
    private final ClosureRows rows = new ClosureRows();
    private final Model model = new Model();
    private final int pieces;
    private final int longestTick;

    private ModelTest(int seed) {
        random = new Random(seed);
        pieces = seed % 3 == 0 ? 60 : 1 + random.nextInt(4);
        longestTick = seed % 10 == 0 ? 2000 : 25;
    }

    public static void main(String[] args) {
        Due due = new Due();
        for (int seed = 0; seed < RUNS; seed++) {
            new ModelTest(seed).run(due, seed);
        }
        due.end();
    }

    private void run(Due due, int seed) {
        for (int n = 0; n < CALLS; n++) {
            String name = NAMES.get(random.nextInt(NAMES.size()));
            int[] a = drawArguments(name);
            if (random.nextInt(20) == 0 && a.length > 0) {
                a[random.nextInt(a.length)] = WRONG[random.nextInt(WRONG.length)];
            }
            String got = answerOf(rows, name, a);
            String want = answerOf(model, name, a);
            if (!got.equals(want)) {
                due.tell("seed " + seed + ", call " + n + ": " + name + Arrays.toString(a)
                        + " answered " + got + ", due is " + want);
                return;
            }
        }
    }

    private int[] drawArguments(String name) {
        switch (name) {
            case "close": return drawClosure();
            case "answer": return new int[] {drawNumber(), random.nextInt(2)};
            case "lift": return new int[] {drawNumber(), random.nextInt(3)};
            case "incident": return new int[] {random.nextInt(4), random.nextInt(2)};
            case "step": return new int[] {random.nextInt(10), random.nextInt(25) == 0 ? -1 : drawPiece(), drawSide()};
            case "tick": return new int[] {1 + random.nextInt(random.nextInt(30) == 0 ? 2000 : longestTick)};
            case "clock": return new int[0];
            case "minutes": return drawSpan();
            case "reason": return new int[] {drawPiece(), drawSide(), drawMinute(), random.nextInt(6)};
            case "notice": return new int[] {model.noticeCount() + 2 - random.nextInt(105), random.nextInt(5)};
            case "blocked": return new int[] {random.nextInt(10)};
            default: return new int[] {drawPiece(), drawSide(), drawMinute()};
        }
    }

    private int[] drawClosure() {
        int kind = random.nextInt(6);
        int from = drawMinute();
        int to = Math.min(99_999, from + 1 + random.nextInt(random.nextInt(4) == 0 ? 5000 : 60));
        int x = random.nextInt(4);
        if (kind == Due.CROSSING) {
            int period = 1 + random.nextInt(random.nextInt(3) == 0 ? 99 : 12);
            x = 100 * period + random.nextInt(period + 1);
        } else if (kind == Due.SLOW) {
            x = 1 + random.nextInt(99);
        }
        return new int[] {kind, drawPiece(), 1 + random.nextInt(3), from, to, x};
    }

    private int[] drawSpan() {
        int from = drawMinute();
        return new int[] {drawPiece(), drawSide(), from, Math.min(99_999, from + random.nextInt(2001))};
    }

    private int drawNumber() {
        return random.nextInt(model.closureCount() + 1);
    }

    private int drawPiece() {
        return random.nextInt(pieces);
    }

    private int drawSide() {
        return 1 + random.nextInt(2);
    }

    private int drawMinute() {
        if (random.nextInt(40) == 0) {
            return 99_999 - random.nextInt(50);
        }
        return Math.max(0, Math.min(99_999, model.clock() - 40 + random.nextInt(120)));
    }

    /** Both classes bear the same face, so the same call is made on either by its name. */
    private static String answerOf(Object target, String name, int[] a) {
        Method method = FACE.get(target.getClass()).get(name);
        Class<?>[] types = method.getParameterTypes();
        Object[] arguments = new Object[a.length];
        for (int n = 0; n < a.length; n++) {
            if (types[n] == boolean.class) {
                arguments[n] = a[n] == 1;
            } else {
                arguments[n] = a[n];
            }
        }
        try {
            return String.valueOf(method.invoke(target, arguments));
        } catch (InvocationTargetException e) {
            return "throws." + e.getCause().getClass().getSimpleName();
        } catch (IllegalAccessException e) {
            throw new IllegalStateException(e);
        }
    }

    private static Map<String, Method> methodsOf(Class<?> type) {
        Map<String, Method> methods = new HashMap<>();
        for (Method method : type.getDeclaredMethods()) {
            if (!Modifier.isPrivate(method.getModifiers())) {
                methods.put(method.getName(), method);
            }
        }
        return methods;
    }
}
