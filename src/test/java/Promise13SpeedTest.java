public final class Promise13SpeedTest {
    public static void main(String[] args) {
        Due due = new Due();
        theLeastPercent(due);
        leastAndLargestPercent(due);
        withoutAny(due);
        unknownAndRange(due);
        due.end();
    }

    private static void theLeastPercent(Due due) {
        due.by("The least percent of slow closures that hold on a side at a minute");
        ClosureRows x = new ClosureRows();
        x.close(Due.SLOW, 9, 3, 10, 50, 60);
        x.close(Due.SLOW, 9, 1, 20, 30, 99);
        x.close(Due.SLOW, 9, 2, 20, 40, 1);
        x.close(Due.WORKS, 9, 3, 0, 100, 5);
        due.is("speed(9, 1, 9)", x.speed(9, 1, 9), 100);
        due.is("speed(9, 1, 10)", x.speed(9, 1, 10), 60);
        due.is("speed(9, 1, 20)", x.speed(9, 1, 20), 60);
        due.is("speed(9, 2, 19)", x.speed(9, 2, 19), 60);
        due.is("speed(9, 2, 20)", x.speed(9, 2, 20), 1);
        due.is("speed(9, 2, 39)", x.speed(9, 2, 39), 1);
        due.is("speed(9, 2, 40)", x.speed(9, 2, 40), 60);
        due.is("speed(9, 2, 50)", x.speed(9, 2, 50), 100);
        x.tick(25);
        x.lift(2, 1);
        due.is("lifted, a minute gone", x.speed(9, 2, 24), 1);
        due.is("lifted, now", x.speed(9, 2, 25), 60);
    }

    private static void leastAndLargestPercent(Due due) {
        due.by("the percent (1 .. 99)");
        int[][] orders = {{1, 99}, {99, 1}, {1, 1}, {99, 99}, {98, 99}, {99, 98}, {2, 1}, {1, 2}};
        for (int[] order : orders) {
            ClosureRows x = new ClosureRows();
            x.close(Due.SLOW, 9, 1, 0, 10, order[0]);
            due.is("the first one alone", x.speed(9, 1, 0), order[0]);
            x.close(Due.SLOW, 9, 1, 0, 10, order[1]);
            due.is("both", x.speed(9, 1, 0), Math.min(order[0], order[1]));
        }
    }

    private static void withoutAny(Due due) {
        due.by("100 without any");
        ClosureRows x = new ClosureRows();
        due.is("no closure", x.speed(9, 1, 0), 100);
        for (int kind : new int[] {Due.WORKS, Due.EVENT, Due.SCENE, Due.FLOOD, Due.CROSSING}) {
            x.close(kind, 9, 1, 0, 10, Due.goodX(kind));
        }
        x.answer(1, true);
        x.incident(7, true);
        due.is("closures of each other kind", x.speed(9, 1, 0), 100);
        x.close(Due.SLOW, 9, 2, 0, 10, 5);
        x.close(Due.SLOW, 8, 1, 0, 10, 5);
        due.is("slow beside it", x.speed(9, 1, 0), 100);
        x.close(Due.SLOW, 9, 1, 1, 2, 5);
        due.is("before a slow one", x.speed(9, 1, 0), 100);
        due.is("in a slow one", x.speed(9, 1, 1), 5);
        due.is("behind a slow one", x.speed(9, 1, 2), 100);
    }

    private static void unknownAndRange(Due due) {
        due.by("100 without any. Likewise.");
        due.needsPlaceAndMinute("speed", (x, piece, side, t) -> x.speed(piece, side, t));
    }
}
