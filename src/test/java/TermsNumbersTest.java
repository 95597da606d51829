/** Pieces, sides, incidents, closures and units: each number is its own, from the first to the last. */
public final class TermsNumbersTest {
    public static void main(String[] args) {
        Due due = new Due();
        piecesAndSides(due);
        incidents(due);
        closures(due);
        atMostOneHundred(due);
        units(due);
        due.end();
    }

    private static void piecesAndSides(Due due) {
        due.by("PIECES 0 .. 59 have the SIDES 1 and 2.");
        for (int piece = 0; piece < 60; piece++) {
            for (int side = 1; side <= 3; side++) {
                ClosureRows x = new ClosureRows();
                x.close(Due.FLOOD, piece, side, 0, 0, 0);
                x.close(Due.SLOW, piece, side, 0, 1, 50);
                onlyThere(due, x, piece, side);
            }
        }
    }

    private static void onlyThere(Due due, ClosureRows x, int piece, int side) {
        for (int p = 0; p < 60; p++) {
            for (int s = 1; s <= 2; s++) {
                boolean there = p == piece && (side == 3 || s == side);
                String at = "(" + p + ", " + s + ", 0) of (" + piece + ", " + side + ")";
                due.is("closed" + at, x.closed(p, s, 0), there);
                due.is("speed" + at, x.speed(p, s, 0), there ? 50 : 100);
                due.is("reason" + at, x.reason(p, s, 0, 1), there ? 0 : -1);
            }
        }
    }

    private static void incidents(Due due) {
        due.by("INCIDENTS 0 .. 19 are open or not");
        for (int open = 0; open < 20; open++) {
            ClosureRows x = new ClosureRows();
            for (int i = 0; i < 20; i++) {
                x.close(Due.SCENE, i, 3, 0, 0, i);
            }
            x.incident(open, true);
            for (int i = 0; i < 20; i++) {
                due.is("incident " + open + " open, scene of " + i, x.closed(i, 1, 0), i == open);
                x.incident(i, true);
            }
            x.incident(open, false);
            for (int i = 0; i < 20; i++) {
                due.is("incident " + open + " not open, scene of " + i, x.closed(i, 2, 0), i != open);
            }
        }
    }

    private static void closures(Due due) {
        due.by("CLOSURES 0, 1, ..");
        for (int lifted : new int[] {0, 1, 50, 98, 99}) {
            ClosureRows x = new ClosureRows();
            for (int n = 0; n < 100; n++) {
                due.is("close", x.close(Due.EVENT, n % 60, 1 + n / 60, 0, 10, 0), n);
            }
            x.answer(lifted, true);
            for (int n = 0; n < 100; n++) {
                due.is("allowed is " + lifted + ", closed by " + n, x.closed(n % 60, 1 + n / 60, 0), n == lifted);
            }
            for (int n = 0; n < 100; n++) {
                if (n != lifted) {
                    x.answer(n, true);
                }
            }
            x.lift(lifted, 0);
            for (int n = 0; n < 100; n++) {
                due.is("lifted is " + lifted + ", closed by " + n, x.closed(n % 60, 1 + n / 60, 0), n != lifted);
            }
        }
    }

    private static void atMostOneHundred(Due due) {
        due.by("CLOSURES 0, 1, .. (at most 100)");
        ClosureRows x = new ClosureRows();
        for (int n = 0; n < 99; n++) {
            x.close(Due.FLOOD, 0, 1, 0, 0, 0);
        }
        due.refuses("lift(99, 0) of 99", Due.UNKNOWN, () -> x.lift(99, 0));
        due.is("the 100th", x.close(Due.EVENT, 1, 1, 0, 5, 0), 99);
        due.refuses("the 101st", Due.NO_ROOM, () -> x.close(Due.FLOOD, 1, 1, 0, 5, 0));
        x.answer(99, true);
        due.is("the 100th holds", x.closed(1, 1, 0), true);
        due.is("lift(99, 0)", x.lift(99, 0), true);
        due.refuses("lift(100, 0)", Due.UNKNOWN, () -> x.lift(100, 0));
        due.refuses("answer(100, true)", Due.UNKNOWN, () -> x.answer(100, true));
        due.is("the last of all reasons", x.reason(0, 1, 0, 98), 98);
        due.is("one reason more", x.reason(0, 1, 0, 99), -1);
    }

    private static void units(Due due) {
        due.by("UNITS 0 .. 9 have a ROUTE");
        for (int unit = 0; unit < 10; unit++) {
            ClosureRows x = new ClosureRows();
            due.is("step", x.step(unit, 5, 2), 1);
            x.close(Due.FLOOD, 5, 3, 0, 0, 0);
            due.notices(x, 1);
            due.notice(x, 0, unit, 5, 2, 1, 0);
            for (int other = 0; other < 10; other++) {
                due.is("blocked(" + other + ")", x.blocked(other), other == unit ? 1 : 0);
            }
            for (int other = 0; other < 10; other++) {
                due.is("a step of unit " + other, x.step(other, 5, 2), other == unit ? 2 : 1);
            }
        }
    }
}
