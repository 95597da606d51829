/** Objects that tests begin with; made the same way each time, so that two of them are twins. */
final class Rows {
    /** The closures of busy(), by their numbers. */
    static final int WORKS_ON = 0;
    static final int EVENT_ASKED = 1;
    static final int EVENT_ALLOWED = 2;
    static final int EVENT_FORBIDDEN = 3;
    static final int SCENE_OPEN = 4;
    static final int SCENE_SHUT = 5;
    static final int FLOOD_ON = 6;
    static final int FLOOD_WITH_A_WORD = 7;
    static final int FLOOD_LIFTED = 8;
    static final int CROSSING_ON = 9;
    static final int SLOW_ON = 10;
    static final int WORKS_ENDED = 11;
    static final int WORKS_LIFTED = 12;
    static final int BUSY_CLOSURES = 13;
    static final int BUSY_NOTICES = 6;
    static final int FULL_NOTICES = 118;

    private Rows() {
    }

    static ClosureRows fresh() {
        return new ClosureRows();
    }

    /** A closure 0 of both sides of piece 0 that holds whenever its minutes let it; unit 0 goes over side 1. */
    static ClosureRows holding(int kind, int from, int to) {
        ClosureRows x = new ClosureRows();
        x.step(0, 0, 1);
        x.close(kind, 0, 3, from, to, Due.goodX(kind));
        x.incident(Due.goodX(Due.SCENE), true);
        if (kind == Due.EVENT) {
            x.answer(0, true);
        }
        return x;
    }

    /** Closures of each kind and in each state; the clock is 50, and one of them ends at that very minute. */
    static ClosureRows busy() {
        ClosureRows x = new ClosureRows();
        x.step(0, 0, 1);
        x.step(0, 58, 1);
        x.step(0, 59, 2);
        x.step(9, 59, 2);
        x.close(Due.WORKS, 0, 1, 0, 1_000, 0);
        x.close(Due.EVENT, 0, 2, 0, 1_000, 0);
        x.close(Due.EVENT, 1, 1, 0, 1_000, 0);
        x.close(Due.EVENT, 1, 2, 0, 1_000, 0);
        x.close(Due.SCENE, 58, 1, 0, 0, 0);
        x.close(Due.SCENE, 58, 2, 0, 0, 19);
        x.close(Due.FLOOD, 59, 2, 10, 0, 0);
        x.close(Due.FLOOD, 59, 1, 10, 0, 0);
        x.close(Due.FLOOD, 1, 3, 0, 0, 0);
        x.close(Due.CROSSING, 2, 3, 5, 2_000, 503);
        x.close(Due.SLOW, 0, 3, 0, 1_000, 60);
        x.close(Due.WORKS, 2, 1, 10, 50, 0);
        x.close(Due.WORKS, 59, 2, 5, 1_000, 0);
        x.answer(EVENT_ALLOWED, true);
        x.answer(EVENT_FORBIDDEN, false);
        x.incident(0, true);
        x.tick(20);
        x.incident(0, false);
        x.incident(0, true);
        x.lift(FLOOD_WITH_A_WORD, 7);
        x.lift(FLOOD_LIFTED, 7);
        x.lift(FLOOD_LIFTED, 8);
        x.lift(WORKS_LIFTED, 7);
        x.tick(30);
        return x;
    }

    /** As busy(), with 100 closures, 12 steps of the units 0 and 9, and more than 100 notices; the clock is 120. */
    static ClosureRows full() {
        ClosureRows x = busy();
        for (int n = BUSY_CLOSURES; n < 100; n++) {
            x.close(Due.WORKS, 3 + n % 50, 3, 500, 600, 0);
        }
        for (int n = 3; n < 12; n++) {
            x.step(0, 2, 1 + n % 2);
        }
        for (int n = 1; n < 12; n++) {
            x.step(9, 2, 1 + n % 2);
        }
        x.tick(70);
        return x;
    }

    /** As busy(), at the last minute. */
    static ClosureRows late() {
        ClosureRows x = busy();
        while (x.clock() < 99_999) {
            x.tick(Math.min(2_000, 99_999 - x.clock()));
        }
        return x;
    }
}
