public final class Promise12ReasonTest {
    public static void main(String[] args) {
        Due due = new Due();
        byEndsThenNumbers(due);
        withoutAnEndLast(due);
        aLiftedOneEndsAtItsLifting(due);
        onlyWhatHolds(due);
        notSoMany(due);
        allHundred(due);
        unknownAndRange(due);
        iBelowZero(due);
        due.end();
    }

    private static void reasons(Due due, ClosureRows x, int piece, int side, int t, int... want) {
        for (int i = 0; i < want.length; i++) {
            due.is("reason(" + piece + ", " + side + ", " + t + ", " + i + ")", x.reason(piece, side, t, i), want[i]);
        }
        due.is("one reason more", x.reason(piece, side, t, want.length), -1);
    }

    private static void byEndsThenNumbers(Due due) {
        due.by("those that end first ahead of others (without an end last), then by numbers");
        ClosureRows x = new ClosureRows();
        x.close(Due.FLOOD, 9, 3, 0, 1, 0);
        x.close(Due.WORKS, 9, 1, 0, 99_999, 0);
        x.close(Due.SLOW, 9, 1, 0, 30, 50);
        x.close(Due.SCENE, 9, 1, 0, 1, 4);
        x.close(Due.CROSSING, 9, 1, 0, 20, 1_005);
        x.close(Due.EVENT, 9, 1, 0, 30, 0);
        x.close(Due.WORKS, 9, 2, 0, 10, 0);
        x.incident(4, true);
        x.answer(5, true);
        reasons(due, x, 9, 1, 0, 4, 2, 5, 1, 0, 3);
        reasons(due, x, 9, 1, 5, 2, 5, 1, 0, 3);
        reasons(due, x, 9, 1, 10, 4, 2, 5, 1, 0, 3);
        reasons(due, x, 9, 2, 0, 6, 0);
        reasons(due, x, 9, 1, 30, 1, 0, 3);
        reasons(due, x, 9, 1, 99_999, 0, 3);
        reasons(due, x, 8, 1, 0);
    }

    private static void withoutAnEndLast(Due due) {
        due.by("(without an end last)");
        for (int kind : new int[] {Due.SCENE, Due.FLOOD}) {
            for (int to : new int[] {Integer.MIN_VALUE, 0, 1, 99_998, Integer.MAX_VALUE}) {
                ClosureRows x = new ClosureRows();
                x.incident(7, true);
                x.close(kind, 9, 1, 0, to, 7);
                x.close(Due.WORKS, 9, 1, 0, 99_999, 0);
                reasons(due, x, 9, 1, 0, 1, 0);
                reasons(due, x, 9, 1, 99_998, 1, 0);
                reasons(due, x, 9, 1, 99_999, 0);
            }
        }
    }

    private static void aLiftedOneEndsAtItsLifting(Due due) {
        due.by("LIFTED: it holds up to that minute (itself not) only");
        ClosureRows x = new ClosureRows();
        x.close(Due.WORKS, 9, 1, 0, 40, 0);
        x.close(Due.WORKS, 9, 1, 0, 50, 0);
        x.close(Due.FLOOD, 9, 1, 0, 0, 0);
        x.tick(10);
        reasons(due, x, 9, 1, 5, 0, 1, 2);
        x.lift(2, 1);
        reasons(due, x, 9, 1, 5, 0, 1, 2);
        x.lift(2, 2);
        reasons(due, x, 9, 1, 5, 2, 0, 1);
        x.tick(1);
        x.lift(1, 1);
        reasons(due, x, 9, 1, 5, 2, 1, 0);
        reasons(due, x, 9, 1, 10, 1, 0);
        reasons(due, x, 9, 1, 11, 0);
    }

    private static void onlyWhatHolds(Due due) {
        due.by("of a side that holds at a minute");
        ClosureRows x = new ClosureRows();
        x.close(Due.EVENT, 9, 3, 0, 40, 0);
        x.close(Due.SCENE, 9, 3, 0, 40, 0);
        x.close(Due.WORKS, 9, 3, 20, 40, 0);
        reasons(due, x, 9, 1, 10);
        reasons(due, x, 9, 1, 19);
        reasons(due, x, 9, 2, 20, 2);
        reasons(due, x, 9, 2, 39, 2);
        reasons(due, x, 9, 2, 40);
    }

    private static void notSoMany(Due due) {
        due.by("-1 when there are not so many");
        ClosureRows x = new ClosureRows();
        due.is("the first of none", x.reason(9, 1, 0, 0), -1);
        x.close(Due.WORKS, 9, 1, 0, 10, 0);
        x.close(Due.SLOW, 9, 1, 0, 20, 5);
        due.is("the first of two", x.reason(9, 1, 0, 0), 0);
        due.is("the second of two", x.reason(9, 1, 0, 1), 1);
        for (int i : new int[] {2, 3, 99, 100, 101, Integer.MAX_VALUE}) {
            due.is("reason " + i + " of two", x.reason(9, 1, 0, i), -1);
        }
    }

    private static void allHundred(Due due) {
        due.by("CLOSURES 0, 1, .. (at most 100)");
        ClosureRows x = new ClosureRows();
        int[] want = new int[100];
        for (int n = 0; n < 100; n++) {
            x.close(Due.WORKS, 9, 3, 0, 1_000 - n, 0);
            want[99 - n] = n;
        }
        reasons(due, x, 9, 2, 0, want);
        due.is("reason 101 of 100", x.reason(9, 2, 0, 101), -1);
    }

    private static void unknownAndRange(Due due) {
        due.by("Unknown: likewise; range: likewise");
        due.needsPlaceAndMinute("reason", (x, piece, side, t) -> x.reason(piece, side, t, 0));
    }

    private static void iBelowZero(Due due) {
        due.by("range: .. or i is below 0");
        for (int i : new int[] {Integer.MIN_VALUE, -100, -2, -1}) {
            due.refuses("reason(0, 1, 50, " + i + ")", Due.RANGE, Rows::busy, x -> x.reason(0, 1, 50, i));
            due.refuses("reason(30, 1, 50, " + i + ")", Due.RANGE, Rows::busy, x -> x.reason(30, 1, 50, i));
        }
        due.is("reason(0, 1, 50, 0)", Rows.busy().reason(0, 1, 50, 0), Rows.WORKS_ON);
    }
}
