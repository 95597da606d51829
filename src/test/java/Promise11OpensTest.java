public final class Promise11OpensTest {
    public static void main(String[] args) {
        Due due = new Due();
        firstOpenMinute(due);
        twoThousandMinutes(due);
        theEndOfTime(due);
        refusals(due);
        due.end();
    }

    private static void firstOpenMinute(Due due) {
        ClosureRows x = new ClosureRows();
        x.close(Due.WORKS, 9, 1, 10, 20, 0);
        x.close(Due.WORKS, 9, 1, 20, 30, 0);
        x.close(Due.CROSSING, 9, 1, 30, 100, 1002);
        x.close(Due.SLOW, 9, 1, 0, 200, 5);
        due.is("opens(9, 1, 0)", x.opens(9, 1, 0), 0);
        due.is("opens(9, 1, 9)", x.opens(9, 1, 9), 9);
        due.is("opens(9, 1, 10)", x.opens(9, 1, 10), 32);
        due.is("opens(9, 1, 39)", x.opens(9, 1, 39), 39);
        due.is("opens(9, 1, 40)", x.opens(9, 1, 40), 42);
        due.is("opens(9, 2, 10)", x.opens(9, 2, 10), 10);
        x.tick(15);
        x.lift(0, 1);
        due.is("lifted", x.opens(9, 1, 10), 15);
    }

    private static void twoThousandMinutes(Due due) {
        ClosureRows x = new ClosureRows();
        x.close(Due.WORKS, 9, 1, 0, 2_005, 0);
        due.is("the 2,001st minute", x.opens(9, 1, 5), -1);
        due.is("the 2,000th minute", x.opens(9, 1, 6), 2_005);
        x.close(Due.FLOOD, 9, 2, 100, 0, 0);
        due.is("a flood", x.opens(9, 2, 100), -1);
        due.is("before a flood", x.opens(9, 2, 99), 99);
        x.close(Due.CROSSING, 10, 1, 0, 5_000, 9999);
        due.is("a crossing that never opens", x.opens(10, 1, 0), -1);
        due.is("a crossing at its end", x.opens(10, 1, 4_000), 5_000);
    }

    private static void theEndOfTime(Due due) {
        ClosureRows x = new ClosureRows();
        due.is("open at the end", x.opens(9, 1, 99_999), 99_999);
        x.close(Due.WORKS, 9, 1, 99_000, 99_999, 0);
        due.is("the last minute", x.opens(9, 1, 99_000), 99_999);
        x.close(Due.FLOOD, 9, 1, 99_500, 0, 0);
        due.is("none is left", x.opens(9, 1, 99_000), -1);
        due.is("none is left at the end", x.opens(9, 1, 99_999), -1);
    }

    private static void refusals(Due due) {
        ClosureRows x = new ClosureRows();
        due.refusesSides("opens", (piece, side, t) -> x.opens(piece, side, t));
    }
}
