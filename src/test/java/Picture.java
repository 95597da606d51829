import java.util.ArrayList;
import java.util.List;
import java.util.function.Supplier;

/**
 * What can be seen of an object of Rows, on its pieces, as a row of answers. Some (how long a route is, whose word a
 * flood has) only a changing call shows, so the object is used up. Fewer than 300 calls, as an object has 512.
 */
final class Picture {
    private static final int[] PIECES = {0, 1, 2, 58, 59};
    /** The first ones, and those beside which the rows of Rows.full() are cut. */
    private static final int[] NOTICES = {
        0, 1, 2, 3, 4, Rows.BUSY_NOTICES - 1, Rows.BUSY_NOTICES,
        Rows.FULL_NOTICES - 101, Rows.FULL_NOTICES - 100, Rows.FULL_NOTICES - 1, Rows.FULL_NOTICES,
    };

    private final ClosureRows x;
    private final List<String> seen = new ArrayList<>();

    private Picture(ClosureRows x) {
        this.x = x;
    }

    static List<String> of(ClosureRows x) {
        Picture picture = new Picture(x);
        picture.see("clock()", x::clock);
        for (int unit = 0; unit < 10; unit++) {
            int u = unit;
            picture.see("blocked(" + u + ")", () -> x.blocked(u));
        }
        picture.seePlaces();
        picture.seeNotices();
        picture.seeByChanges();
        return picture.seen;
    }

    private void see(String call, Supplier<Object> body) {
        String answer;
        try {
            answer = String.valueOf(body.get());
        } catch (RuntimeException e) {
            answer = "throws." + e.getClass().getSimpleName();
        }
        seen.add(call + " answered " + answer);
    }

    private void seePlaces() {
        int now = x.clock();
        for (int piece : PIECES) {
            for (int side = 1; side <= 2; side++) {
                int s = side;
                String at = "(" + piece + ", " + side + ")";
                see("closed now" + at, () -> x.closed(piece, s, now));
                see("minutes" + at, () -> x.minutes(piece, s, 0, 2_000));
                see("opens" + at, () -> x.opens(piece, s, now));
                see("speed" + at, () -> x.speed(piece, s, now));
                for (int i = 0; i < 3; i++) {
                    int rank = i;
                    see("reason at 15 " + i + at, () -> x.reason(piece, s, 15, rank));
                }
            }
        }
    }

    private void seeNotices() {
        for (int i : NOTICES) {
            for (int what = 0; what < 5; what++) {
                int w = what;
                see("notice(" + i + ", " + w + ")", () -> x.notice(i, w));
            }
        }
    }

    private void seeByChanges() {
        for (int unit = 0; unit < 10; unit++) {
            int u = unit;
            see("step(" + u + ", 2, 1)", () -> x.step(u, 2, 1));
        }
        for (int closure = 0; closure <= Rows.BUSY_CLOSURES; closure++) {
            int c = closure;
            see("answer(" + c + ", true)", () -> {
                x.answer(c, true);
                return "nothing";
            });
            see("lift(" + c + ", 7)", () -> x.lift(c, 7));
            see("lift(" + c + ", 3)", () -> x.lift(c, 3));
        }
        see("close", () -> x.close(Due.WORKS, 58, 3, 0, 99_999, 0));
        see("tick(100)", () -> x.tick(100));
        see("tick(1)", () -> x.tick(1));
        seePlaces();
    }
}
