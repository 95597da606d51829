public final class Promise06StepTest {
    public static void main(String[] args) {
        Due due = new Due();
        howMany(due);
        theRouteIsEmptied(due);
        aNewStepTellsNothing(due);
        refusals(due);
        due.end();
    }

    private static void howMany(Due due) {
        ClosureRows x = new ClosureRows();
        for (int unit = 0; unit < 10; unit++) {
            for (int n = 1; n <= 12; n++) {
                due.is("step " + n + " of unit " + unit, x.step(unit, 59 * (n % 2), 1 + n % 2), n);
            }
        }
        for (int unit = 0; unit < 10; unit++) {
            int full = unit;
            due.refuses("the 13th step", Due.NO_ROOM, () -> x.step(full, 0, 1));
        }
    }

    private static void theRouteIsEmptied(Due due) {
        ClosureRows x = new ClosureRows();
        x.close(Due.FLOOD, 1, 1, 0, 0, 0);
        for (int n = 0; n < 12; n++) {
            x.step(0, 1, 1);
            x.step(1, 1, 1);
        }
        int any = 0;
        for (int side : new int[] {Integer.MIN_VALUE, 0, 1, 3, Integer.MAX_VALUE}) {
            due.is("step(0, -1, " + side + ")", x.step(0, -1, side), 0);
            any++;
        }
        due.is("blocked(0), emptied", x.blocked(0), 0);
        due.is("blocked(1), not emptied", x.blocked(1), 12);
        due.is("a step of an emptied route", x.step(0, 1, 1), 1);
        due.is("blocked(0)", x.blocked(0), 1);
        x.step(0, -1, any);
        x.step(1, -1, any);
        x.lift(0, 1);
        x.lift(0, 2);
        due.notices(x, 0);
    }

    private static void aNewStepTellsNothing(Due due) {
        ClosureRows x = new ClosureRows();
        x.close(Due.WORKS, 1, 1, 0, 10, 0);
        x.step(0, 1, 1);
        due.notices(x, 0);
        due.is("tick(9)", x.tick(9), 0);
        x.incident(0, true);
        due.notices(x, 0);
        due.is("tick(1)", x.tick(1), 1);
        due.notice(x, 0, 0, 1, 1, 0, 10);
        x.step(1, 1, 1);
        due.is("tick(9), once more", x.tick(9), 0);
    }

    private static void refusals(Due due) {
        ClosureRows x = new ClosureRows();
        for (int unit : new int[] {Integer.MIN_VALUE, -1, 10, Integer.MAX_VALUE}) {
            due.refuses("unit " + unit, Due.UNKNOWN, () -> x.step(unit, 0, 1));
            due.refuses("unit " + unit + ", emptied", Due.UNKNOWN, () -> x.step(unit, -1, 1));
            due.refuses("unit " + unit + ", side 0", Due.UNKNOWN, () -> x.step(unit, 0, 0));
        }
        for (int piece : new int[] {Integer.MIN_VALUE, -2, 60, Integer.MAX_VALUE}) {
            due.refuses("piece " + piece, Due.UNKNOWN, () -> x.step(0, piece, 1));
            due.refuses("piece " + piece + ", side 0", Due.UNKNOWN, () -> x.step(0, piece, 0));
        }
        for (int side : new int[] {Integer.MIN_VALUE, -1, 0, 3, Integer.MAX_VALUE}) {
            due.refuses("side " + side, Due.RANGE, () -> x.step(0, 0, side));
        }
        for (int n = 1; n <= 12; n++) {
            due.is("step " + n, x.step(0, n, 2), n);
        }
        due.refuses("full, unknown piece", Due.UNKNOWN, () -> x.step(0, 60, 1));
        due.refuses("full, side out of range", Due.RANGE, () -> x.step(0, 0, 3));
        due.refuses("full", Due.NO_ROOM, () -> x.step(0, 0, 1));
        due.is("another unit", x.step(1, 0, 1), 1);
    }
}
