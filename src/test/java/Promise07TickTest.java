public final class Promise07TickTest {
    public static void main(String[] args) {
        Due due = new Due();
        howManyNotices(due);
        eachMinuteByItself(due);
        orderOfOneMinute(due);
        oneSideOnly(due);
        onlyOfThisTick(due);
        range(due);
        theEndOfTime(due);
        due.end();
    }

    private static void howManyNotices(Due due) {
        ClosureRows x = new ClosureRows();
        x.step(0, 5, 1);
        x.step(0, 5, 2);
        x.step(1, 5, 1);
        x.step(1, 5, 1);
        x.close(Due.WORKS, 5, 3, 3, 6, 0);
        due.is("tick(2)", x.tick(2), 0);
        due.is("tick(1), it closes: three, as unit 1 is told once", x.tick(1), 3);
        due.is("tick(2), it stays closed", x.tick(2), 0);
        due.is("tick(1), it opens", x.tick(1), 3);
        due.is("tick(2000)", x.tick(2000), 0);
        due.is("clock()", x.clock(), 2006);
    }

    private static void eachMinuteByItself(Due due) {
        ClosureRows x = new ClosureRows();
        x.step(3, 0, 1);
        x.close(Due.CROSSING, 0, 1, 1, 2_001, 201);
        due.is("tick(2000)", x.tick(2000), 2000);
        due.notice(x, 1900, 3, 0, 1, 1, 1901);
        due.notice(x, 1901, 3, 0, 1, 0, 1902);
        due.notice(x, 1999, 3, 0, 1, 0, 2000);
        ClosureRows covered = new ClosureRows();
        covered.step(3, 0, 1);
        covered.close(Due.CROSSING, 0, 1, 1, 50, 501);
        covered.close(Due.WORKS, 0, 1, 5, 30, 0);
        due.is("closed by two: told when the last one opens", covered.tick(60), 2 + 2 + 4 * 2);
        due.notice(covered, 2, 3, 0, 1, 1, 5);
        due.notice(covered, 3, 3, 0, 1, 0, 30);
        ClosureRows whole = new ClosureRows();
        whole.step(3, 0, 1);
        whole.close(Due.CROSSING, 0, 1, 1, 50, 505);
        whole.close(Due.CROSSING, 0, 1, 1, 50, 500);
        due.is("a period closed as a whole", whole.tick(60), 2);
    }

    private static void orderOfOneMinute(Due due) {
        ClosureRows x = new ClosureRows();
        int[] units = {9, 0, 4};
        for (int unit : units) {
            x.step(unit, 2, 2);
            x.step(unit, 1, 2);
            x.step(unit, 2, 1);
        }
        x.close(Due.WORKS, 2, 3, 5, 9, 0);
        x.close(Due.WORKS, 1, 2, 5, 9, 0);
        due.is("tick(5)", x.tick(5), 9);
        int[][] want = {
            {0, 1, 2}, {4, 1, 2}, {9, 1, 2},
            {0, 2, 1}, {4, 2, 1}, {9, 2, 1},
            {0, 2, 2}, {4, 2, 2}, {9, 2, 2},
        };
        for (int i = 0; i < want.length; i++) {
            due.notice(x, i, want[i][0], want[i][1], want[i][2], 1, 5);
        }
    }

    private static void oneSideOnly(Due due) {
        for (int side = 1; side <= 2; side++) {
            ClosureRows x = new ClosureRows();
            x.step(6, 3, 1);
            x.step(6, 3, 2);
            x.close(Due.WORKS, 3, side, 2, 4, 0);
            due.is("tick(3), side " + side, x.tick(3), 1);
            due.notice(x, 0, 6, 3, side, 1, 2);
        }
    }

    private static void onlyOfThisTick(Due due) {
        ClosureRows x = new ClosureRows();
        x.step(0, 1, 1);
        x.close(Due.WORKS, 1, 1, 0, 10, 0);
        due.notices(x, 1);
        due.is("tick(5)", x.tick(5), 0);
        due.is("tick(5), it opens", x.tick(5), 1);
        due.is("tick(1)", x.tick(1), 0);
    }

    private static void range(Due due) {
        ClosureRows x = new ClosureRows();
        for (int minutes : new int[] {Integer.MIN_VALUE, -1, 0, 2001, Integer.MAX_VALUE}) {
            due.refuses("tick(" + minutes + ")", Due.RANGE, () -> x.tick(minutes));
        }
        due.is("clock()", x.clock(), 0);
        due.is("tick(1)", x.tick(1), 0);
        due.is("tick(2000)", x.tick(2000), 0);
        due.is("clock(), gone on", x.clock(), 2001);
    }

    private static void theEndOfTime(Due due) {
        ClosureRows x = new ClosureRows();
        x.step(0, 0, 1);
        x.close(Due.FLOOD, 0, 1, 99_999, 0, 0);
        for (int n = 0; n < 49; n++) {
            x.tick(2000);
        }
        due.refuses("tick(2000) beyond", Due.RANGE, () -> x.tick(2000));
        due.is("tick(1998)", x.tick(1998), 0);
        due.refuses("tick(2) beyond", Due.RANGE, () -> x.tick(2));
        due.is("clock()", x.clock(), 99_998);
        due.is("tick(1)", x.tick(1), 1);
        due.notice(x, 0, 0, 0, 1, 1, 99_999);
        for (int minutes : new int[] {1, 2000, Integer.MAX_VALUE}) {
            due.refuses("tick(" + minutes + ") at the end", Due.RANGE, () -> x.tick(minutes));
        }
    }
}
