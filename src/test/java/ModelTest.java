import java.util.Arrays;
import java.util.Random;

/** Long runs of calls, drawn from fixed seeds, on a ClosureRows and on a Model: each answer must be the same. */
public final class ModelTest {
    private static final int RUNS = 300;
    private static final int CALLS = 512;
    private static final String[] NAMES = {
        "close", "answer", "lift", "incident", "step", "tick", "clock",
        "closed", "minutes", "opens", "reason", "speed", "notice", "blocked",
    };
    private static final int[] WRONG = {Integer.MIN_VALUE, -2, -1, 0, 4, 10, 13, 20, 60, 101, 1000, 2001, 100_000, Integer.MAX_VALUE};

    private final Random random;
    private final ClosureRows rows = new ClosureRows();
    private final Model model = new Model();
    private final int pieces;
    private final int longestTick;

    private ModelTest(int seed) {
        random = new Random(seed);
        pieces = seed % 3 == 0 ? 60 : 1 + random.nextInt(4);
        longestTick = seed % 10 == 0 ? 2000 : 25;
    }

    public static void main(String[] args) {
        Due due = new Due();
        for (int seed = 0; seed < RUNS; seed++) {
            new ModelTest(seed).run(due, seed);
        }
        due.end();
    }

    private void run(Due due, int seed) {
        for (int n = 0; n < CALLS; n++) {
            int call = drawCall();
            int[] a = drawArguments(call);
            if (random.nextInt(20) == 0 && a.length > 0) {
                a[random.nextInt(a.length)] = WRONG[random.nextInt(WRONG.length)];
            }
            String got = answerOf(() -> ofRows(call, a));
            String want = answerOf(() -> ofModel(call, a));
            if (!got.equals(want)) {
                due.tell("seed " + seed + ", call " + n + ": " + NAMES[call] + Arrays.toString(a)
                        + " answered " + got + ", due is " + want);
                return;
            }
        }
    }

    private int drawCall() {
        int call = random.nextInt(NAMES.length + 4);
        return call < NAMES.length ? call : call == NAMES.length ? 0 : call == NAMES.length + 1 ? 4 : 12;
    }

    private int[] drawArguments(int call) {
        switch (call) {
            case 0: return drawClosure();
            case 1: return new int[] {drawNumber(), random.nextInt(2)};
            case 2: return new int[] {drawNumber(), random.nextInt(3)};
            case 3: return new int[] {random.nextInt(4), random.nextInt(2)};
            case 4: return new int[] {random.nextInt(10), random.nextInt(25) == 0 ? -1 : drawPiece(), drawSide()};
            case 5: return new int[] {1 + random.nextInt(random.nextInt(30) == 0 ? 2000 : longestTick)};
            case 6: return new int[0];
            case 8: return drawSpan();
            case 10: return new int[] {drawPiece(), drawSide(), drawMinute(), random.nextInt(6)};
            case 12: return new int[] {model.noticeCount() + 2 - random.nextInt(105), random.nextInt(5)};
            case 13: return new int[] {random.nextInt(10)};
            default: return new int[] {drawPiece(), drawSide(), drawMinute()};
        }
    }

    private int[] drawClosure() {
        int kind = random.nextInt(6);
        int from = drawMinute();
        int to = Math.min(99_999, from + 1 + random.nextInt(random.nextInt(4) == 0 ? 5000 : 60));
        int x = random.nextInt(4);
        if (kind == Due.CROSSING) {
            int period = 1 + random.nextInt(random.nextInt(3) == 0 ? 99 : 12);
            x = 100 * period + random.nextInt(period + 1);
        } else if (kind == Due.SLOW) {
            x = 1 + random.nextInt(99);
        }
        return new int[] {kind, drawPiece(), 1 + random.nextInt(3), from, to, x};
    }

    private int[] drawSpan() {
        int from = drawMinute();
        return new int[] {drawPiece(), drawSide(), from, Math.min(99_999, from + random.nextInt(2001))};
    }

    private int drawNumber() {
        return random.nextInt(model.closureCount() + 1);
    }

    private int drawPiece() {
        return random.nextInt(pieces);
    }

    private int drawSide() {
        return 1 + random.nextInt(2);
    }

    private int drawMinute() {
        if (random.nextInt(40) == 0) {
            return 99_999 - random.nextInt(50);
        }
        return Math.max(0, Math.min(99_999, model.clock() - 40 + random.nextInt(120)));
    }

    private interface Call {
        long make();
    }

    private static String answerOf(Call call) {
        try {
            return Long.toString(call.make());
        } catch (RuntimeException e) {
            return "throws." + e.getClass().getSimpleName();
        }
    }

    private long ofRows(int call, int[] a) {
        switch (call) {
            case 0: return rows.close(a[0], a[1], a[2], a[3], a[4], a[5]);
            case 1: rows.answer(a[0], a[1] == 1); return 0;
            case 2: return rows.lift(a[0], a[1]) ? 1 : 0;
            case 3: rows.incident(a[0], a[1] == 1); return 0;
            case 4: return rows.step(a[0], a[1], a[2]);
            case 5: return rows.tick(a[0]);
            case 6: return rows.clock();
            case 7: return rows.closed(a[0], a[1], a[2]) ? 1 : 0;
            case 8: return rows.minutes(a[0], a[1], a[2], a[3]);
            case 9: return rows.opens(a[0], a[1], a[2]);
            case 10: return rows.reason(a[0], a[1], a[2], a[3]);
            case 11: return rows.speed(a[0], a[1], a[2]);
            case 12: return rows.notice(a[0], a[1]);
            default: return rows.blocked(a[0]);
        }
    }

    private long ofModel(int call, int[] a) {
        switch (call) {
            case 0: return model.close(a[0], a[1], a[2], a[3], a[4], a[5]);
            case 1: model.answer(a[0], a[1] == 1); return 0;
            case 2: return model.lift(a[0], a[1]) ? 1 : 0;
            case 3: model.incident(a[0], a[1] == 1); return 0;
            case 4: return model.step(a[0], a[1], a[2]);
            case 5: return model.tick(a[0]);
            case 6: return model.clock();
            case 7: return model.closed(a[0], a[1], a[2]) ? 1 : 0;
            case 8: return model.minutes(a[0], a[1], a[2], a[3]);
            case 9: return model.opens(a[0], a[1], a[2]);
            case 10: return model.reason(a[0], a[1], a[2], a[3]);
            case 11: return model.speed(a[0], a[1], a[2]);
            case 12: return model.notice(a[0], a[1]);
            default: return model.blocked(a[0]);
        }
    }
}
