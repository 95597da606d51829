public final class Promise15BlockedTest {
    public static void main(String[] args) {
        Due due = new Due();
        stepsThatAreClosedNow(due);
        unknown(due);
        due.end();
    }

    private static void stepsThatAreClosedNow(Due due) {
        ClosureRows x = new ClosureRows();
        x.close(Due.WORKS, 5, 3, 10, 20, 0);
        x.close(Due.WORKS, 6, 2, 15, 25, 0);
        x.close(Due.SLOW, 7, 3, 0, 99, 50);
        int[][] route = {{5, 1}, {5, 2}, {5, 1}, {6, 1}, {6, 2}, {7, 1}};
        for (int[] step : route) {
            x.step(9, step[0], step[1]);
        }
        x.step(0, 6, 2);
        int[] clocks = {9, 10, 15, 20, 25};
        int[] wantNine = {0, 3, 4, 1, 0};
        int[] wantZero = {0, 0, 1, 1, 0};
        for (int i = 0; i < clocks.length; i++) {
            x.tick(clocks[i] - x.clock());
            due.is("blocked(9) at " + clocks[i], x.blocked(9), wantNine[i]);
            due.is("blocked(0) at " + clocks[i], x.blocked(0), wantZero[i]);
            due.is("blocked(1) at " + clocks[i], x.blocked(1), 0);
        }
        x.close(Due.FLOOD, 5, 1, 0, 0, 0);
        due.is("closed by a call", x.blocked(9), 2);
    }

    private static void unknown(Due due) {
        ClosureRows x = new ClosureRows();
        for (int unit : new int[] {Integer.MIN_VALUE, -1, 10, Integer.MAX_VALUE}) {
            due.refuses("blocked(" + unit + ")", Due.UNKNOWN, () -> x.blocked(unit));
        }
    }
}
