import java.util.ArrayList;
import java.util.List;
import java.util.Random;
import java.util.function.Consumer;

/** Two objects make the same calls; one of them is asked for what is refused in between, and answers as the other. */
public final class TermsRefusedChangesNothingTest {
    private static final int RUNS = 60;
    private static final int CALLS = 80;
    private static final int REFUSED_EACH_TIME = 5;

    private final List<Consumer<ClosureRows>> refused = new ArrayList<>();
    private final Due due = new Due();
    private int nextRefused = 0;

    public static void main(String[] args) {
        TermsRefusedChangesNothingTest test = new TermsRefusedChangesNothingTest();
        test.due.by("What is refused changes nothing.");
        test.listChanging();
        test.listAsking();
        for (int seed = 0; seed < RUNS; seed++) {
            test.run(new Random(seed), seed);
        }
        test.due.end();
    }

    /** Whatever the state of the object is, these are refused. */
    private void listChanging() {
        for (int bad : Due.beside(0, 5)) {
            refused.add(x -> x.close(bad, 0, 3, 0, 99_999, 7));
        }
        for (int bad : Due.beside(0, 59)) {
            refused.add(x -> x.close(Due.FLOOD, bad, 3, 0, 99_999, 7));
            refused.add(x -> x.step(1, bad == -1 ? -2 : bad, 1));
        }
        for (int bad : Due.beside(0, 19)) {
            refused.add(x -> x.close(Due.SCENE, 0, 3, 0, 99_999, bad));
            refused.add(x -> x.incident(bad, true));
            refused.add(x -> x.incident(bad, false));
        }
        for (int bad : Due.beside(1, 3)) {
            refused.add(x -> x.close(Due.WORKS, 0, bad, 0, 99_999, 7));
            refused.add(x -> x.step(0, 1, bad));
        }
        for (int bad : Due.beside(0, 99_999)) {
            refused.add(x -> x.close(Due.FLOOD, 1, 3, bad, 99_999, 7));
            refused.add(x -> x.close(Due.WORKS, 1, 3, 0, bad, 7));
            refused.add(x -> x.answer(bad, true));
            refused.add(x -> x.lift(bad, 0));
        }
        for (int bad : Due.beside(1, 99)) {
            refused.add(x -> x.close(Due.SLOW, 0, 3, 0, 99_999, bad));
        }
        for (int bad : new int[] {-1, 99, 102, 10_000}) {
            refused.add(x -> x.close(Due.CROSSING, 0, 3, 0, 99_999, bad));
        }
        for (int bad : Due.beside(0, 999)) {
            refused.add(x -> x.lift(0, bad));
        }
        for (int bad : Due.beside(0, 9)) {
            refused.add(x -> x.step(bad, 0, 1));
            refused.add(x -> x.step(bad, -1, 1));
        }
        for (int bad : Due.beside(1, 2_000)) {
            refused.add(x -> x.tick(bad));
        }
    }

    private void listAsking() {
        for (int bad : Due.beside(0, 59)) {
            refused.add(x -> x.closed(bad, 1, 0));
            refused.add(x -> x.minutes(bad, 1, 0, 9));
        }
        for (int bad : Due.beside(1, 2)) {
            refused.add(x -> x.opens(0, bad, 0));
            refused.add(x -> x.reason(0, bad, 0, 0));
        }
        for (int bad : Due.beside(0, 99_999)) {
            refused.add(x -> x.speed(0, 1, bad));
            refused.add(x -> x.minutes(0, 1, bad, 99_999));
            refused.add(x -> x.notice(-1, bad));
        }
        for (int bad : Due.beside(0, 9)) {
            refused.add(x -> x.blocked(bad));
        }
        refused.add(x -> x.minutes(0, 1, 5, 4));
        refused.add(x -> x.minutes(0, 1, 0, 2_001));
        refused.add(x -> x.reason(0, 1, 0, -1));
    }

    private void run(Random random, int seed) {
        ClosureRows asked = new ClosureRows();
        ClosureRows twin = new ClosureRows();
        for (int n = 0; n < CALLS; n++) {
            for (int more = 0; more < REFUSED_EACH_TIME; more++) {
                askRefused(asked);
            }
            int[] a = new int[7];
            for (int k = 0; k < a.length; k++) {
                a[k] = random.nextInt(1_000_000);
            }
            String got = answerOf(asked, a);
            String want = answerOf(twin, a);
            if (!got.equals(want)) {
                due.tell("seed " + seed + ", call " + n + " answered " + got + ", due is " + want);
                return;
            }
        }
        due.is("clock()", asked.clock(), twin.clock());
    }

    private void askRefused(ClosureRows x) {
        int n = nextRefused % refused.size();
        nextRefused++;
        try {
            refused.get(n).accept(x);
        } catch (IllegalArgumentException | IndexOutOfBoundsException | IllegalStateException e) {
            return;
        }
        due.tell("the call " + n + " of the list is not refused");
    }

    /** Any drawn numbers make a call; a few pieces only, so that closures, steps and questions meet. */
    private static String answerOf(ClosureRows x, int[] a) {
        int piece = a[1] % 3;
        int side = 1 + a[2] % 2;
        int t = a[3] % 300;
        try {
            switch (a[0] % 16) {
                case 0, 1: return "" + x.close(a[4] % 6, piece, 1 + a[2] % 3, t, t + 1 + a[5] % 90, drawX(a));
                case 2: x.answer(a[4] % 20, a[5] % 2 == 0); return "answered";
                case 3, 4: return "" + x.lift(a[4] % 20, a[5] % 2);
                case 5: x.incident(a[4] % 2, a[5] % 2 == 0); return "incident";
                case 6, 7: return "" + x.step(a[4] % 10, a[5] % 9 == 0 ? -1 : piece, side);
                case 8, 9: return "" + x.tick(1 + a[4] % 20);
                case 10: return "" + x.closed(piece, side, t);
                case 11: return "" + x.minutes(piece, side, t, t + a[4] % 200);
                case 12: return "" + x.opens(piece, side, t);
                case 13: return "" + x.reason(piece, side, t, a[4] % 4) + x.speed(piece, side, t);
                case 14: return "" + x.notice(a[4] % 100, a[5] % 5);
                default: return "" + x.blocked(a[4] % 10);
            }
        } catch (RuntimeException e) {
            return "throws." + e.getClass().getSimpleName();
        }
    }

    private static int drawX(int[] a) {
        int period = 1 + a[5] % 20;
        return a[4] % 6 == Due.CROSSING ? 100 * period + a[6] % (period + 1) : 1 + a[6] % 2;
    }
}
