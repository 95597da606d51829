/** What a test found: it prints each answer that is not the one that is due, and ends with 1 if there was one. */
final class Due {
    static final Class<IllegalArgumentException> UNKNOWN = IllegalArgumentException.class;
    static final Class<IndexOutOfBoundsException> RANGE = IndexOutOfBoundsException.class;
    static final Class<IllegalStateException> STATE = IllegalStateException.class;
    static final Class<UnsupportedOperationException> NO_ROOM = UnsupportedOperationException.class;

    static final int WORKS = 0;
    static final int EVENT = 1;
    static final int SCENE = 2;
    static final int FLOOD = 3;
    static final int CROSSING = 4;
    static final int SLOW = 5;

    private int wrong = 0;

    void is(String call, long got, long want) {
        if (got != want) {
            tell(call + " answered " + got + ", due is " + want);
        }
    }

    void is(String call, boolean got, boolean want) {
        if (got != want) {
            tell(call + " answered " + got + ", due is " + want);
        }
    }

    /** The very class, since no subclass is what the document names. */
    void refuses(String call, Class<? extends RuntimeException> want, Runnable body) {
        try {
            body.run();
        } catch (RuntimeException e) {
            if (e.getClass() != want) {
                tell(call + " threw " + e.getClass().getName() + ", due is " + want.getName());
            }
            return;
        }
        tell(call + " threw nothing, due is " + want.getName());
    }

    /** A call about a side of a piece at a minute. */
    interface SideCall {
        void make(int piece, int side, int t);
    }

    /** What closed, minutes, opens, reason and speed refuse alike. */
    void refusesSides(String name, SideCall call) {
        for (int piece : new int[] {Integer.MIN_VALUE, -1, 60, Integer.MAX_VALUE}) {
            refuses(name + " of piece " + piece, UNKNOWN, () -> call.make(piece, 1, 0));
            refuses(name + " of piece " + piece + ", side 0", UNKNOWN, () -> call.make(piece, 0, 0));
            refuses(name + " of piece " + piece + ", minute -1", UNKNOWN, () -> call.make(piece, 1, -1));
        }
        for (int side : new int[] {Integer.MIN_VALUE, -1, 0, 3, Integer.MAX_VALUE}) {
            refuses(name + " of side " + side, RANGE, () -> call.make(59, side, 0));
        }
        for (int t : new int[] {Integer.MIN_VALUE, -1, 100_000, Integer.MAX_VALUE}) {
            refuses(name + " at minute " + t, RANGE, () -> call.make(59, 2, t));
        }
    }

    /** The whole of notice i at once: unit, piece, side, closed, minute. */
    void notice(ClosureRows x, int i, int... want) {
        for (int what = 0; what < want.length; what++) {
            is("notice(" + i + ", " + what + ")", x.notice(i, what), want[what]);
        }
    }

    /** How many notices there were in all, as notice() lets it be seen. */
    void notices(ClosureRows x, int want) {
        if (want > 0) {
            is("notice(" + (want - 1) + ", 0) is there", isKept(x, want - 1), true);
        }
        is("notice(" + want + ", 0) is there", isKept(x, want), false);
    }

    private static boolean isKept(ClosureRows x, int i) {
        try {
            x.notice(i, 0);
            return true;
        } catch (IllegalArgumentException e) {
            return false;
        }
    }

    void tell(String fault) {
        wrong++;
        System.out.println(fault);
    }

    void end() {
        System.out.println(wrong == 0 ? "as due" : wrong + " answers are not as due");
        if (wrong != 0) {
            System.exit(1);
        }
    }
}
