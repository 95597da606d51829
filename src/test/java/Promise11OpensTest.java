public final class Promise11OpensTest {
    public static void main(String[] args) {
        Due due = new Due();
        firstOpenMinute(due);
        twoThousandMinutes(due);
        upToTheLastMinute(due);
        noneIsOpen(due);
        unknownAndRange(due);
        due.end();
    }

    private static void firstOpenMinute(Due due) {
        due.by("The first minute from t on");
        ClosureRows x = new ClosureRows();
        x.close(Due.WORKS, 9, 1, 10, 20, 0);
        x.close(Due.WORKS, 9, 1, 20, 30, 0);
        x.close(Due.CROSSING, 9, 1, 30, 100, 1_002);
        x.close(Due.SLOW, 9, 1, 0, 200, 5);
        due.is("opens(9, 1, 0)", x.opens(9, 1, 0), 0);
        due.is("opens(9, 1, 9)", x.opens(9, 1, 9), 9);
        due.is("opens(9, 1, 10)", x.opens(9, 1, 10), 32);
        due.is("opens(9, 1, 31)", x.opens(9, 1, 31), 32);
        due.is("opens(9, 1, 32)", x.opens(9, 1, 32), 32);
        due.is("opens(9, 1, 39)", x.opens(9, 1, 39), 39);
        due.is("opens(9, 1, 40)", x.opens(9, 1, 40), 42);
        due.is("opens(9, 2, 10)", x.opens(9, 2, 10), 10);
        x.tick(15);
        x.lift(0, 1);
        due.is("lifted", x.opens(9, 1, 10), 15);
    }

    private static void twoThousandMinutes(Due due) {
        due.by("(of the 2,000 ones from it");
        ClosureRows x = new ClosureRows();
        x.close(Due.WORKS, 9, 1, 0, 2_005, 0);
        due.is("the 2,002nd minute", x.opens(9, 1, 4), -1);
        due.is("the 2,001st minute", x.opens(9, 1, 5), -1);
        due.is("the 2,000th minute", x.opens(9, 1, 6), 2_005);
        due.is("the 1,999th minute", x.opens(9, 1, 7), 2_005);
        x.close(Due.CROSSING, 10, 1, 0, 5_000, 9_999);
        due.is("a crossing that never opens", x.opens(10, 1, 0), -1);
        due.is("a crossing, its end one too far", x.opens(10, 1, 3_000), -1);
        due.is("a crossing at its end", x.opens(10, 1, 3_001), 5_000);
    }

    private static void upToTheLastMinute(Due due) {
        due.by("up to 99,999)");
        ClosureRows x = new ClosureRows();
        due.is("open at the end", x.opens(9, 1, 99_999), 99_999);
        x.close(Due.WORKS, 9, 1, 97_000, 99_999, 0);
        due.is("the last minute, 2,001st", x.opens(9, 1, 97_999), -1);
        due.is("the last minute, 2,000th", x.opens(9, 1, 98_000), 99_999);
        due.is("the last minute, second", x.opens(9, 1, 99_998), 99_999);
        due.is("the last minute, first", x.opens(9, 1, 99_999), 99_999);
        x.close(Due.FLOOD, 9, 1, 99_999, 0, 0);
        for (int t : new int[] {98_000, 98_001, 99_998, 99_999}) {
            due.is("none is left from " + t, x.opens(9, 1, t), -1);
        }
    }

    private static void noneIsOpen(Due due) {
        due.by("-1 for none");
        ClosureRows x = new ClosureRows();
        x.close(Due.FLOOD, 9, 2, 100, 0, 0);
        due.is("before a flood", x.opens(9, 2, 99), 99);
        due.is("in a flood", x.opens(9, 2, 100), -1);
        x.lift(0, 1);
        due.is("in a flood with a word", x.opens(9, 2, 100), -1);
        x.lift(0, 2);
        due.is("in a lifted flood", x.opens(9, 2, 100), 100);
    }

    private static void unknownAndRange(Due due) {
        due.by("-1 for none. Likewise.");
        due.needsPlaceAndMinute("opens", (x, piece, side, t) -> x.opens(piece, side, t));
    }
}
