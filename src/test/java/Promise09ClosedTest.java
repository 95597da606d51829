public final class Promise09ClosedTest {
    public static void main(String[] args) {
        Due due = new Due();
        oneOfSeveralIsEnough(due);
        slowClosesNothing(due);
        goneAndToCome(due);
        unknownAndRange(due);
        due.end();
    }

    private static void oneOfSeveralIsEnough(Due due) {
        due.by("A side is CLOSED at a minute when some closure of it (but a slow one) holds then.");
        ClosureRows x = new ClosureRows();
        x.close(Due.EVENT, 6, 1, 0, 100, 0);
        x.close(Due.SLOW, 6, 3, 0, 100, 50);
        x.close(Due.WORKS, 6, 1, 10, 20, 0);
        x.close(Due.WORKS, 6, 2, 15, 25, 0);
        due.is("closed(6, 1, 9)", x.closed(6, 1, 9), false);
        due.is("closed(6, 1, 10)", x.closed(6, 1, 10), true);
        due.is("closed(6, 1, 19)", x.closed(6, 1, 19), true);
        due.is("closed(6, 1, 20)", x.closed(6, 1, 20), false);
        due.is("closed(6, 2, 14)", x.closed(6, 2, 14), false);
        due.is("closed(6, 2, 15)", x.closed(6, 2, 15), true);
        due.is("closed(6, 2, 24)", x.closed(6, 2, 24), true);
        due.is("closed(6, 2, 25)", x.closed(6, 2, 25), false);
    }

    private static void slowClosesNothing(Due due) {
        due.by("5 SLOW: as works, but nothing is closed");
        ClosureRows x = new ClosureRows();
        x.close(Due.SLOW, 6, 3, 0, 100, 1);
        for (int t : new int[] {0, 50, 99, 100}) {
            due.is("closed(6, 1, " + t + ")", x.closed(6, 1, t), false);
            due.is("closed(6, 2, " + t + ")", x.closed(6, 2, t), false);
        }
    }

    private static void goneAndToCome(Due due) {
        due.by("of a minute gone all is asked as it is now, too");
        ClosureRows x = new ClosureRows();
        x.close(Due.WORKS, 6, 1, 0, 100, 0);
        x.close(Due.FLOOD, 7, 1, 50, 0, 0);
        x.tick(60);
        due.is("works, a minute gone", x.closed(6, 1, 0), true);
        due.is("a flood holds on", x.closed(7, 1, 99_999), true);
        x.lift(0, 1);
        due.is("lifted, a minute gone", x.closed(6, 1, 59), true);
        due.is("lifted, now", x.closed(6, 1, 60), false);
        x.close(Due.WORKS, 8, 1, 10, 20, 0);
        due.is("told of when it is gone", x.closed(8, 1, 15), true);
    }

    private static void unknownAndRange(Due due) {
        due.by("Unknown: no such piece; range: side 1 or 2, the minute.");
        due.needsPlaceAndMinute("closed", (x, piece, side, t) -> x.closed(piece, side, t));
    }
}
