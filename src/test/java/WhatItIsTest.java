/** The last of the calls that an object is used for is answered like the first one. */
public final class WhatItIsTest {
    private static final int LAST_CALL = 512;
    private static final int CROSSINGS = 97;
    private static final int WORKS = 97;
    private static final int EVENT = 98;
    private static final int STEPS = 11;
    /** What used() has to spare for ticks, so that one call is left. */
    private static final int TICKS = LAST_CALL - 1 - (EVENT + 1) - 10 * STEPS;

    public static void main(String[] args) {
        Due due = new Due();
        due.by("An object is used for at most 512 calls after it has been made");
        lastCallThatChanges(due);
        lastCallThatAsks(due);
        lastCallIsRefused(due);
        allMinutesWithFullRows(due);
        due.end();
    }

    /** 511 calls. The crossings are closed at even minutes, and the clock is even. */
    private static ClosureRows used() {
        ClosureRows x = new ClosureRows();
        for (int n = 0; n < CROSSINGS; n++) {
            x.close(Due.CROSSING, n % 60, 3, 0, 99_999, 201);
        }
        x.close(Due.WORKS, 0, 1, 0, 99_999, 0);
        x.close(Due.EVENT, 0, 1, 0, 99_999, 0);
        for (int n = 0; n < 10 * STEPS; n++) {
            x.step(n % 10, 1 + n % STEPS, 2);
        }
        for (int n = 0; n < TICKS; n++) {
            x.tick(1);
        }
        return x;
    }

    private static void lastCallThatChanges(Due due) {
        due.is("close", used().close(Due.FLOOD, 0, 1, 0, 0, 0), EVENT + 1);
        used().answer(EVENT, true);
        due.is("lift", used().lift(WORKS, 0), true);
        used().incident(19, true);
        due.is("step", used().step(9, 0, 1), STEPS + 1);
        due.is("tick", used().tick(1), 10 * STEPS);
    }

    private static void lastCallThatAsks(Due due) {
        due.is("clock", used().clock(), TICKS);
        due.is("closed", used().closed(1, 2, TICKS), true);
        due.is("minutes", used().minutes(1, 2, 0, 2_000), 1_000);
        due.is("opens", used().opens(1, 2, TICKS), TICKS + 1);
        due.is("reason", used().reason(1, 2, TICKS, 1), 61);
        due.is("speed", used().speed(1, 2, TICKS), 100);
        due.is("notice", used().notice(10 * STEPS * TICKS - 1, 4), TICKS);
        due.is("blocked", used().blocked(9), STEPS);
    }

    private static void lastCallIsRefused(Due due) {
        due.refuses("close", Due.UNKNOWN, () -> used().close(6, 0, 1, 0, 1, 0));
        due.refuses("answer", Due.STATE, () -> used().answer(WORKS, true));
        due.refuses("lift", Due.STATE, () -> used().lift(0, 0));
        due.refuses("step", Due.RANGE, () -> used().step(9, 0, 3));
        due.refuses("tick", Due.RANGE, () -> used().tick(0));
        due.refuses("notice", Due.UNKNOWN, () -> used().notice(10 * STEPS * TICKS, 4));
    }

    /** Each minute but the last, which ends the crossings when they are open, turns 12 steps of all ten units. */
    private static void allMinutesWithFullRows(Due due) {
        ClosureRows x = new ClosureRows();
        int calls = 0;
        for (int n = 0; n < 100; n++) {
            x.close(Due.CROSSING, n % 60, 3, 1, 99_999, 201);
            calls++;
        }
        for (int n = 0; n < 120; n++) {
            x.step(n % 10, n / 10, 1);
            calls++;
        }
        while (calls < LAST_CALL - 1) {
            due.is("tick(342)", x.tick(342), 120 * 342);
            calls++;
        }
        int left = 99_999 - 291 * 342;
        due.is("tick(" + left + "), the last call", x.tick(left), 120 * (left - 1));
    }
}
