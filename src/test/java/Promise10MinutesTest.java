public final class Promise10MinutesTest {
    public static void main(String[] args) {
        Due due = new Due();
        spans(due);
        overlapsCountOnce(due);
        refusals(due);
        due.end();
    }

    private static void spans(Due due) {
        ClosureRows x = new ClosureRows();
        x.close(Due.WORKS, 9, 1, 10, 20, 0);
        due.is("all of it", x.minutes(9, 1, 0, 100), 10);
        due.is("just it", x.minutes(9, 1, 10, 20), 10);
        due.is("its first minute", x.minutes(9, 1, 0, 11), 1);
        due.is("up to it", x.minutes(9, 1, 0, 10), 0);
        due.is("its last minute", x.minutes(9, 1, 19, 30), 1);
        due.is("from its end on", x.minutes(9, 1, 20, 30), 0);
        due.is("no minute", x.minutes(9, 1, 15, 15), 0);
        due.is("one minute", x.minutes(9, 1, 15, 16), 1);
        due.is("the other side", x.minutes(9, 2, 0, 100), 0);
        x.close(Due.FLOOD, 9, 2, 0, 0, 0);
        due.is("2,000 minutes", x.minutes(9, 2, 0, 2000), 2000);
        due.is("the last 2,000 minutes", x.minutes(9, 2, 97_999, 99_999), 2000);
        due.is("no minute at the end", x.minutes(9, 2, 99_999, 99_999), 0);
        x.close(Due.CROSSING, 10, 1, 7, 1_000, 1003);
        due.is("a crossing", x.minutes(10, 1, 0, 2000), 99 * 3 + 3);
        due.is("a part of a crossing", x.minutes(10, 1, 18, 29), 2 + 2);
        x.close(Due.SLOW, 11, 1, 0, 1_000, 50);
        due.is("slow", x.minutes(11, 1, 0, 1_000), 0);
    }

    private static void overlapsCountOnce(Due due) {
        ClosureRows x = new ClosureRows();
        x.close(Due.WORKS, 9, 1, 10, 20, 0);
        x.close(Due.WORKS, 9, 3, 15, 30, 0);
        x.close(Due.CROSSING, 9, 1, 0, 100, 1001);
        due.is("overlaps", x.minutes(9, 1, 0, 100), 20 + 8);
    }

    private static void refusals(Due due) {
        ClosureRows x = new ClosureRows();
        due.refusesSides("minutes from", (piece, side, t) -> x.minutes(piece, side, t, t));
        due.refusesSides("minutes to", (piece, side, t) -> x.minutes(piece, side, Math.max(0, Math.min(99_999, t)), t));
        due.refuses("an unknown piece, to below from", Due.UNKNOWN, () -> x.minutes(60, 1, 9, 8));
        int[][] spans = {
            {-1, 5}, {-1, -1}, {5, 4}, {1, 0}, {0, -1}, {0, 2001}, {50, 2051}, {99_999, 100_000}, {98_000, 100_000},
            {100_000, 100_000}, {Integer.MIN_VALUE, Integer.MAX_VALUE}, {Integer.MAX_VALUE, Integer.MIN_VALUE},
            {0, Integer.MAX_VALUE}, {0, Integer.MIN_VALUE}, {Integer.MIN_VALUE, 0}, {Integer.MAX_VALUE, 0},
        };
        for (int[] span : spans) {
            due.refuses("minutes " + span[0] + " .. " + span[1], Due.RANGE, () -> x.minutes(0, 1, span[0], span[1]));
        }
    }
}
