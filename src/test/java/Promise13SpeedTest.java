public final class Promise13SpeedTest {
    public static void main(String[] args) {
        Due due = new Due();
        theLeastPercent(due);
        refusals(due);
        due.end();
    }

    private static void theLeastPercent(Due due) {
        ClosureRows x = new ClosureRows();
        x.close(Due.SLOW, 9, 3, 10, 50, 60);
        x.close(Due.SLOW, 9, 1, 20, 30, 99);
        x.close(Due.SLOW, 9, 2, 20, 40, 1);
        x.close(Due.WORKS, 9, 3, 0, 100, 5);
        due.is("speed(9, 1, 9)", x.speed(9, 1, 9), 100);
        due.is("speed(9, 1, 10)", x.speed(9, 1, 10), 60);
        due.is("speed(9, 1, 20)", x.speed(9, 1, 20), 60);
        due.is("speed(9, 2, 19)", x.speed(9, 2, 19), 60);
        due.is("speed(9, 2, 20)", x.speed(9, 2, 20), 1);
        due.is("speed(9, 2, 39)", x.speed(9, 2, 39), 1);
        due.is("speed(9, 2, 40)", x.speed(9, 2, 40), 60);
        due.is("speed(9, 2, 50)", x.speed(9, 2, 50), 100);
        due.is("speed(8, 1, 20)", x.speed(8, 1, 20), 100);
        x.tick(25);
        x.lift(2, 1);
        due.is("lifted, a minute gone", x.speed(9, 2, 24), 1);
        due.is("lifted, now", x.speed(9, 2, 25), 60);
    }

    private static void refusals(Due due) {
        ClosureRows x = new ClosureRows();
        due.refusesSides("speed", (piece, side, t) -> x.speed(piece, side, t));
    }
}
