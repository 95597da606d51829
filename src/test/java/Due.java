import java.util.List;
import java.util.function.Consumer;
import java.util.function.Supplier;

/** What a test found: it prints each answer that is not the one that is due, and ends with 1 if there was one. */
final class Due {
    static final Class<IllegalArgumentException> UNKNOWN = IllegalArgumentException.class;
    static final Class<IndexOutOfBoundsException> RANGE = IndexOutOfBoundsException.class;
    static final Class<IllegalStateException> STATE = IllegalStateException.class;
    static final Class<UnsupportedOperationException> NO_ROOM = UnsupportedOperationException.class;

    static final int WORKS = 0;
    static final int EVENT = 1;
    static final int SCENE = 2;
    static final int FLOOD = 3;
    static final int CROSSING = 4;
    static final int SLOW = 5;

    private String sentence = "";
    private int wrong = 0;

    /** The words of the document that the next answers are due to; a fault is told with them. */
    void by(String words) {
        sentence = words;
    }

    void is(String call, long got, long want) {
        if (got != want) {
            tell(call + " answered " + got + ", due is " + want);
        }
    }

    void is(String call, boolean got, boolean want) {
        if (got != want) {
            tell(call + " answered " + got + ", due is " + want);
        }
    }

    /** The very class, since no subclass is what the document names. */
    void refuses(String call, Class<? extends RuntimeException> want, Runnable body) {
        try {
            body.run();
        } catch (RuntimeException e) {
            if (e.getClass() != want) {
                tell(call + " threw " + e.getClass().getName() + ", due is " + want.getName());
            }
            return;
        }
        tell(call + " threw nothing, due is " + want.getName());
    }

    /** The call is refused, and the object then goes on like a twin that was never asked. */
    void refuses(String call, Class<? extends RuntimeException> want, Supplier<ClosureRows> made,
            Consumer<ClosureRows> body) {
        ClosureRows asked = made.get();
        refuses(call, want, () -> body.accept(asked));
        same(call + ", refused", Picture.of(asked), Picture.of(made.get()));
    }

    private void same(String what, List<String> got, List<String> want) {
        for (int n = 0; n < want.size(); n++) {
            if (!got.get(n).equals(want.get(n))) {
                tell(what + ", changed the object: then " + got.get(n) + ", due is " + want.get(n));
                return;
            }
        }
    }

    /** A call about a side of a piece at a minute. */
    interface SideCall {
        void make(ClosureRows x, int piece, int side, int t);
    }

    /** What closed, minutes, opens, reason and speed take alike, and what they refuse alike. */
    void needsPlaceAndMinute(String name, SideCall call) {
        for (int piece : new int[] {0, 59}) {
            for (int side : new int[] {1, 2}) {
                for (int t : new int[] {0, 99_999}) {
                    takes(name + " of " + piece + ", " + side + ", " + t, x -> call.make(x, piece, side, t));
                }
            }
        }
        for (int piece : beside(0, 59)) {
            refuses(name + " of piece " + piece, UNKNOWN, Rows::busy, x -> call.make(x, piece, 1, 0));
        }
        for (int side : beside(1, 2)) {
            refuses(name + " of side " + side, RANGE, Rows::busy, x -> call.make(x, 59, side, 0));
        }
        for (int t : beside(0, 99_999)) {
            refuses(name + " at minute " + t, RANGE, Rows::busy, x -> call.make(x, 59, 2, t));
        }
    }

    private void takes(String call, Consumer<ClosureRows> body) {
        try {
            body.accept(Rows.busy());
        } catch (RuntimeException e) {
            tell(call + " threw " + e.getClass().getName() + ", due is nothing");
        }
    }

    /** The numbers next to a range, and the ones farthest from it. */
    static int[] beside(int least, int most) {
        return new int[] {Integer.MIN_VALUE, least - 1, most + 1, Integer.MAX_VALUE};
    }

    static boolean hasEnd(int kind) {
        return kind != SCENE && kind != FLOOD;
    }

    /** An x that close() takes for a kind; a crossing is then closed all the time. */
    static int goodX(int kind) {
        return kind == CROSSING ? 101 : 7;
    }

    /** The whole of notice i at once: unit, piece, side, closed, minute. */
    void notice(ClosureRows x, int i, int... want) {
        for (int what = 0; what < want.length; what++) {
            is("notice(" + i + ", " + what + ")", x.notice(i, what), want[what]);
        }
    }

    /** How many notices there were in all, as notice() lets it be seen. */
    void notices(ClosureRows x, int want) {
        if (want > 0) {
            is("notice(" + (want - 1) + ", 0) is there", isKept(x, want - 1), true);
        }
        is("notice(" + want + ", 0) is there", isKept(x, want), false);
    }

    static boolean isKept(ClosureRows x, int i) {
        try {
            x.notice(i, 0);
            return true;
        } catch (IllegalArgumentException e) {
            return false;
        }
    }

    void tell(String fault) {
        wrong++;
        System.out.println(sentence.isEmpty() ? fault : "\"" + sentence + "\": " + fault);
    }

    void end() {
        System.out.println(wrong == 0 ? "as due" : wrong + " answers are not as due");
        if (wrong != 0) {
            System.exit(1);
        }
    }
}
