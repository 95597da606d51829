/** Routes, from the empty one to the one of 12 steps, and what is told of them. */
public final class TermsRoutesTest {
    public static void main(String[] args) {
        Due due = new Due();
        theEmptyRoute(due);
        upToTwelveSteps(due);
        noThirteenthStep(due);
        toldOnce(due);
        aNewStepTellsNothing(due);
        emptiedInBetween(due);
        due.end();
    }

    private static void theEmptyRoute(Due due) {
        due.by("a ROUTE, a row of up to 12 steps");
        ClosureRows x = new ClosureRows();
        for (int unit = 0; unit < 10; unit++) {
            due.is("emptied when it is empty", x.step(unit, -1, 1), 0);
        }
        for (int piece = 0; piece < 60; piece++) {
            x.close(Due.WORKS, piece, 3, 0, 5, 0);
        }
        due.is("tick(10)", x.tick(10), 0);
        due.notices(x, 0);
        for (int unit = 0; unit < 10; unit++) {
            due.is("blocked(" + unit + ")", x.blocked(unit), 0);
        }
    }

    private static void upToTwelveSteps(Due due) {
        due.by("a row of up to 12 steps, each a piece and a side");
        for (int length = 1; length <= 12; length++) {
            ClosureRows x = new ClosureRows();
            for (int n = 0; n < length; n++) {
                due.is("step " + n, x.step(3, 5 * n, 1 + n % 2), n + 1);
            }
            for (int n = 0; n < 12; n++) {
                x.close(Due.FLOOD, 5 * n, 1 + n % 2, 0, 0, 0);
                due.notices(x, Math.min(n + 1, length));
                due.is("blocked(3) by " + n, x.blocked(3), Math.min(n + 1, length));
            }
            for (int n = 0; n < length; n++) {
                due.notice(x, n, 3, 5 * n, 1 + n % 2, 1, 0);
            }
        }
    }

    private static void noThirteenthStep(Due due) {
        due.by("no room: there are 12");
        due.refuses("a 13th step", Due.NO_ROOM, Rows::full, x -> x.step(0, 30, 1));
        ClosureRows x = new ClosureRows();
        for (int n = 0; n < 12; n++) {
            x.step(3, 5 * n, 1);
        }
        due.refuses("the 13th step", Due.NO_ROOM, () -> x.step(3, 59, 2));
        x.close(Due.FLOOD, 59, 2, 0, 0, 0);
        due.notices(x, 0);
        for (int n = 0; n < 12; n++) {
            x.close(Due.FLOOD, 5 * n, 1, 0, 0, 0);
            due.notices(x, n + 1);
        }
        due.is("blocked(3)", x.blocked(3), 12);
    }

    private static void toldOnce(Due due) {
        due.by("each unit with it is told once, with the minute");
        ClosureRows x = new ClosureRows();
        for (int n = 0; n < 12; n++) {
            x.step(0, 7, 1);
            x.step(9, 7, 1 + n % 2);
        }
        x.tick(4);
        x.close(Due.FLOOD, 7, 1, 0, 0, 0);
        due.notices(x, 2);
        due.notice(x, 0, 0, 7, 1, 1, 4);
        due.notice(x, 1, 9, 7, 1, 1, 4);
        due.is("blocked(0)", x.blocked(0), 12);
        due.is("blocked(9)", x.blocked(9), 6);
    }

    private static void aNewStepTellsNothing(Due due) {
        due.by("A new step tells nothing by itself.");
        ClosureRows x = new ClosureRows();
        x.close(Due.WORKS, 7, 1, 0, 10, 0);
        for (int n = 0; n < 12; n++) {
            x.step(0, 7, 1);
            due.notices(x, 0);
        }
        x.close(Due.FLOOD, 8, 1, 0, 0, 0);
        x.incident(0, true);
        due.is("tick(9)", x.tick(9), 0);
        due.notices(x, 0);
        due.is("tick(1), it opens", x.tick(1), 1);
        due.notice(x, 0, 0, 7, 1, 0, 10);
        x.step(1, 7, 1);
        due.is("tick(9), it stays open", x.tick(9), 0);
        x.step(0, -1, 0);
        due.notices(x, 1);
    }

    private static void emptiedInBetween(Due due) {
        due.by("when a side of a step was closed (open) and is open (closed) now, each unit with it is told");
        ClosureRows x = new ClosureRows();
        x.step(0, 7, 1);
        x.step(1, 7, 1);
        x.close(Due.WORKS, 7, 1, 5, 10, 0);
        x.step(0, -1, 0);
        due.is("unit 1 is told that it closes", x.tick(5), 1);
        due.notice(x, 0, 1, 7, 1, 1, 5);
        x.step(0, 7, 1);
        x.step(1, -1, 0);
        due.is("unit 0 is told that it opens", x.tick(5), 1);
        due.notice(x, 1, 0, 7, 1, 0, 10);
        due.notices(x, 2);
    }
}
