public final class Promise10MinutesTest {
    private static final int MIN = Integer.MIN_VALUE;
    private static final int MAX = Integer.MAX_VALUE;

    public static void main(String[] args) {
        Due due = new Due();
        fromTheFirstUpToTheLast(due);
        overlapsCountOnce(due);
        atMostTwoThousand(due);
        unknownAndRange(due);
        toBelowFrom(due);
        due.end();
    }

    private static void fromTheFirstUpToTheLast(Due due) {
        due.by("For how many of the minutes from .. to - 1");
        ClosureRows x = new ClosureRows();
        x.close(Due.WORKS, 9, 1, 10, 20, 0);
        due.is("all of it", x.minutes(9, 1, 0, 100), 10);
        due.is("just it", x.minutes(9, 1, 10, 20), 10);
        due.is("without its first minute", x.minutes(9, 1, 11, 20), 9);
        due.is("without its last minute", x.minutes(9, 1, 10, 19), 9);
        due.is("its first minute", x.minutes(9, 1, 0, 11), 1);
        due.is("up to it", x.minutes(9, 1, 0, 10), 0);
        due.is("its last minute", x.minutes(9, 1, 19, 30), 1);
        due.is("from its end on", x.minutes(9, 1, 20, 30), 0);
        due.is("no minute", x.minutes(9, 1, 15, 15), 0);
        due.is("one minute", x.minutes(9, 1, 15, 16), 1);
        due.is("the other side", x.minutes(9, 2, 0, 100), 0);
        x.close(Due.CROSSING, 10, 1, 7, 1_000, 1_003);
        due.is("a crossing", x.minutes(10, 1, 0, 2_000), 99 * 3 + 3);
        due.is("a part of a crossing", x.minutes(10, 1, 18, 29), 2 + 2);
        x.close(Due.SLOW, 11, 1, 0, 1_000, 50);
        due.is("slow", x.minutes(11, 1, 0, 1_000), 0);
    }

    private static void overlapsCountOnce(Due due) {
        due.by("For how many of the minutes from .. to - 1 .. it is closed.");
        ClosureRows x = new ClosureRows();
        x.close(Due.WORKS, 9, 1, 10, 20, 0);
        x.close(Due.WORKS, 9, 3, 15, 30, 0);
        x.close(Due.CROSSING, 9, 1, 0, 100, 1_001);
        due.is("overlaps", x.minutes(9, 1, 0, 100), 20 + 8);
    }

    private static void atMostTwoThousand(Due due) {
        due.by("(at most 2,000)");
        ClosureRows x = new ClosureRows();
        x.close(Due.FLOOD, 9, 2, 0, 0, 0);
        for (int from : new int[] {0, 1, 50, 97_998, 97_999}) {
            due.is("1,999 minutes from " + from, x.minutes(9, 2, from, from + 1_999), 1_999);
            due.is("2,000 minutes from " + from, x.minutes(9, 2, from, from + 2_000), 2_000);
        }
        for (int from : new int[] {0, 1, 50, 97_998}) {
            due.refuses("2,001 minutes from " + from, Due.RANGE, Rows::busy, o -> o.minutes(59, 2, from, from + 2_001));
        }
        due.refuses("all minutes", Due.RANGE, Rows::busy, o -> o.minutes(59, 2, 0, 99_999));
    }

    private static void unknownAndRange(Due due) {
        due.by("Unknown, range: likewise");
        due.needsPlaceAndMinute("minutes from", (x, piece, side, t) -> x.minutes(piece, side, t, t));
        due.needsPlaceAndMinute("minutes up to",
                (x, piece, side, t) -> x.minutes(piece, side, Math.max(0, Math.min(99_999, t - 1)), t));
        int[][] spans = {{-1, 5}, {-1, 0}, {99_999, 100_000}, {98_000, 100_000}, {MIN, MAX}, {0, MAX}, {MIN, 0}};
        for (int[] span : spans) {
            due.refuses("minutes " + span[0] + " .. " + span[1], Due.RANGE, Rows::busy,
                    x -> x.minutes(0, 1, span[0], span[1]));
        }
    }

    private static void toBelowFrom(Due due) {
        due.by("or to is below from");
        int[][] spans = {{1, 0}, {50, 49}, {99_999, 99_998}, {99_999, 0}, {0, -1}, {MAX, 0}, {MAX, MIN}, {0, MIN}};
        for (int[] span : spans) {
            due.refuses("minutes " + span[0] + " .. " + span[1], Due.RANGE, Rows::busy,
                    x -> x.minutes(0, 1, span[0], span[1]));
        }
        ClosureRows x = Rows.busy();
        for (int t : new int[] {0, 1, 50, 99_998, 99_999}) {
            due.is("minutes " + t + " .. " + t, x.minutes(59, 2, t, t), 0);
        }
        due.is("minutes 50 .. 51", x.minutes(59, 2, 50, 51), 1);
    }
}
