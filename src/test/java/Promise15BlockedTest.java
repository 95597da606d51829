public final class Promise15BlockedTest {
    public static void main(String[] args) {
        Due due = new Due();
        stepsThatAreClosedNow(due);
        noneAndAllOfTwelve(due);
        unknown(due);
        due.end();
    }

    private static void stepsThatAreClosedNow(Due due) {
        due.by("How many steps of a unit's route are closed now.");
        ClosureRows x = new ClosureRows();
        x.close(Due.WORKS, 5, 3, 10, 20, 0);
        x.close(Due.WORKS, 6, 2, 15, 25, 0);
        x.close(Due.SLOW, 7, 3, 0, 99, 50);
        int[][] route = {{5, 1}, {5, 2}, {5, 1}, {6, 1}, {6, 2}, {7, 1}};
        for (int[] step : route) {
            x.step(9, step[0], step[1]);
        }
        x.step(0, 6, 2);
        int[] clocks = {9, 10, 14, 15, 19, 20, 24, 25};
        int[] wantNine = {0, 3, 3, 4, 4, 1, 1, 0};
        int[] wantZero = {0, 0, 0, 1, 1, 1, 1, 0};
        for (int i = 0; i < clocks.length; i++) {
            x.tick(clocks[i] - x.clock());
            due.is("blocked(9) at " + clocks[i], x.blocked(9), wantNine[i]);
            due.is("blocked(0) at " + clocks[i], x.blocked(0), wantZero[i]);
            due.is("blocked(1) at " + clocks[i], x.blocked(1), 0);
        }
        x.close(Due.FLOOD, 5, 1, 0, 0, 0);
        due.is("closed by a call", x.blocked(9), 2);
    }

    private static void noneAndAllOfTwelve(Due due) {
        due.by("How many steps of a unit's route are closed now.");
        for (int unit : new int[] {0, 9}) {
            ClosureRows x = new ClosureRows();
            x.close(Due.FLOOD, 30, 3, 1, 0, 0);
            due.is("of an empty route", x.blocked(unit), 0);
            for (int n = 1; n <= 12; n++) {
                x.step(unit, 30, 1 + n % 2);
                due.is("of " + n + " steps, open", x.blocked(unit), 0);
            }
            x.tick(1);
            due.is("of 12 steps, closed", x.blocked(unit), 12);
            x.step(unit, -1, 0);
            due.is("of an emptied route", x.blocked(unit), 0);
        }
    }

    private static void unknown(Due due) {
        due.by("Unknown: no such unit.");
        for (int unit : Due.beside(0, 9)) {
            due.refuses("blocked(" + unit + ")", Due.UNKNOWN, Rows::busy, x -> x.blocked(unit));
        }
        due.is("blocked(0)", Rows.busy().blocked(0), 3);
        due.is("blocked(9)", Rows.busy().blocked(9), 1);
    }
}
