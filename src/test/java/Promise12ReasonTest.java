public final class Promise12ReasonTest {
    public static void main(String[] args) {
        Due due = new Due();
        byEndsThenNumbers(due);
        aLiftedOneEndsAtItsLifting(due);
        onlyWhatHolds(due);
        allHundred(due);
        refusals(due);
        due.end();
    }

    private static void reasons(Due due, ClosureRows x, int piece, int side, int t, int... want) {
        for (int i = 0; i < want.length; i++) {
            due.is("reason(" + piece + ", " + side + ", " + t + ", " + i + ")", x.reason(piece, side, t, i), want[i]);
        }
        due.is("one reason more", x.reason(piece, side, t, want.length), -1);
        due.is("the " + Integer.MAX_VALUE + "th reason", x.reason(piece, side, t, Integer.MAX_VALUE), -1);
    }

    private static void byEndsThenNumbers(Due due) {
        ClosureRows x = new ClosureRows();
        x.close(Due.FLOOD, 9, 3, 0, 1, 0);
        x.close(Due.WORKS, 9, 1, 0, 99_999, 0);
        x.close(Due.SLOW, 9, 1, 0, 30, 50);
        x.close(Due.SCENE, 9, 1, 0, 1, 4);
        x.close(Due.CROSSING, 9, 1, 0, 20, 1005);
        x.close(Due.EVENT, 9, 1, 0, 30, 0);
        x.close(Due.WORKS, 9, 2, 0, 10, 0);
        x.incident(4, true);
        x.answer(5, true);
        reasons(due, x, 9, 1, 0, 4, 2, 5, 1, 0, 3);
        reasons(due, x, 9, 1, 5, 2, 5, 1, 0, 3);
        reasons(due, x, 9, 1, 10, 4, 2, 5, 1, 0, 3);
        reasons(due, x, 9, 2, 0, 6, 0);
        reasons(due, x, 9, 1, 30, 1, 0, 3);
        reasons(due, x, 9, 1, 99_999, 0, 3);
        reasons(due, x, 8, 1, 0);
    }

    private static void aLiftedOneEndsAtItsLifting(Due due) {
        ClosureRows x = new ClosureRows();
        x.close(Due.WORKS, 9, 1, 0, 40, 0);
        x.close(Due.WORKS, 9, 1, 0, 50, 0);
        x.close(Due.FLOOD, 9, 1, 0, 0, 0);
        x.tick(10);
        reasons(due, x, 9, 1, 5, 0, 1, 2);
        x.lift(2, 1);
        reasons(due, x, 9, 1, 5, 0, 1, 2);
        x.lift(2, 2);
        reasons(due, x, 9, 1, 5, 2, 0, 1);
        x.tick(1);
        x.lift(1, 1);
        reasons(due, x, 9, 1, 5, 2, 1, 0);
        reasons(due, x, 9, 1, 10, 1, 0);
        reasons(due, x, 9, 1, 11, 0);
    }

    private static void onlyWhatHolds(Due due) {
        ClosureRows x = new ClosureRows();
        x.close(Due.EVENT, 9, 3, 0, 40, 0);
        x.close(Due.SCENE, 9, 3, 0, 40, 0);
        x.close(Due.WORKS, 9, 3, 20, 40, 0);
        reasons(due, x, 9, 1, 10);
        reasons(due, x, 9, 2, 20, 2);
    }

    private static void allHundred(Due due) {
        ClosureRows x = new ClosureRows();
        int[] want = new int[100];
        for (int n = 0; n < 100; n++) {
            x.close(Due.WORKS, 9, 3, 0, 1_000 - n, 0);
            want[99 - n] = n;
        }
        reasons(due, x, 9, 2, 0, want);
    }

    private static void refusals(Due due) {
        ClosureRows x = new ClosureRows();
        due.refusesSides("reason", (piece, side, t) -> x.reason(piece, side, t, 0));
        for (int i : new int[] {Integer.MIN_VALUE, -1}) {
            due.refuses("reason(0, 1, 0, " + i + ")", Due.RANGE, () -> x.reason(0, 1, 0, i));
            due.refuses("reason(60, 1, 0, " + i + ")", Due.UNKNOWN, () -> x.reason(60, 1, 0, i));
        }
    }
}
