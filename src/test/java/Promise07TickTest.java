public final class Promise07TickTest {
    public static void main(String[] args) {
        Due due = new Due();
        theClockGoesOn(due);
        rangeOfMinutes(due);
        beyondTheLastMinute(due);
        howManyNotices(due);
        onlyOfThisTick(due);
        eachMinuteByItself(due);
        firstAndLastMinuteOfATick(due);
        moreThanAreKept(due);
        due.end();
    }

    private static void theClockGoesOn(Due due) {
        due.by("The clock goes on (1 .. 2,000 minutes)");
        for (int minutes : new int[] {1, 2, 1_999, 2_000}) {
            ClosureRows x = new ClosureRows();
            due.is("tick(" + minutes + ")", x.tick(minutes), 0);
            due.is("clock()", x.clock(), minutes);
            x.tick(minutes);
            due.is("clock(), once more", x.clock(), 2 * minutes);
        }
    }

    private static void rangeOfMinutes(Due due) {
        due.by("Range: the minutes");
        for (int minutes : Due.beside(1, 2_000)) {
            due.refuses("tick(" + minutes + ")", Due.RANGE, Rows::busy, x -> x.tick(minutes));
        }
        due.refuses("tick(-1)", Due.RANGE, Rows::busy, x -> x.tick(-1));
    }

    private static void beyondTheLastMinute(Due due) {
        due.by("Range: .. or beyond 99,999.");
        for (int minutes : new int[] {1, 2, 2_000, 2_001, Integer.MAX_VALUE}) {
            due.refuses("tick(" + minutes + ") at the end", Due.RANGE, Rows::late, x -> x.tick(minutes));
        }
        ClosureRows x = new ClosureRows();
        x.step(0, 0, 1);
        x.close(Due.FLOOD, 0, 1, 99_999, 0, 0);
        for (int n = 0; n < 49; n++) {
            x.tick(2_000);
        }
        due.refuses("tick(2000) at 98,000", Due.RANGE, () -> x.tick(2_000));
        due.is("clock(), refused", x.clock(), 98_000);
        due.is("tick(1998)", x.tick(1_998), 0);
        due.refuses("tick(2) at 99,998", Due.RANGE, () -> x.tick(2));
        due.is("clock(), refused again", x.clock(), 99_998);
        due.is("tick(1)", x.tick(1), 1);
        due.notice(x, 0, 0, 0, 1, 1, 99_999);
        due.is("clock(), the last minute", x.clock(), 99_999);
        due.is("2,000 minutes up to the last one", tickFrom(97_999), 2_000);
    }

    private static int tickFrom(int clock) {
        ClosureRows x = new ClosureRows();
        while (x.clock() < clock) {
            x.tick(Math.min(2_000, clock - x.clock()));
        }
        x.tick(2_000);
        return x.clock() - clock;
    }

    private static void howManyNotices(Due due) {
        due.by("how many notices there were");
        ClosureRows x = new ClosureRows();
        x.step(0, 5, 1);
        x.step(0, 5, 2);
        x.step(1, 5, 1);
        x.step(1, 5, 1);
        x.close(Due.WORKS, 5, 3, 3, 6, 0);
        due.is("tick(2)", x.tick(2), 0);
        due.is("tick(1), it closes: three, as unit 1 is told once", x.tick(1), 3);
        due.is("tick(2), it stays closed", x.tick(2), 0);
        due.is("tick(1), it opens", x.tick(1), 3);
        due.is("tick(2000)", x.tick(2_000), 0);
    }

    private static void onlyOfThisTick(Due due) {
        due.by("how many notices there were");
        ClosureRows x = new ClosureRows();
        x.step(0, 1, 1);
        x.close(Due.WORKS, 1, 1, 0, 10, 0);
        due.notices(x, 1);
        due.is("tick(5)", x.tick(5), 0);
        due.is("tick(5), it opens", x.tick(5), 1);
        due.is("tick(1)", x.tick(1), 0);
    }

    private static void eachMinuteByItself(Due due) {
        due.by("for each minute that tick() goes on to");
        ClosureRows x = new ClosureRows();
        x.step(3, 0, 1);
        x.close(Due.CROSSING, 0, 1, 1, 2_001, 201);
        due.is("tick(2000)", x.tick(2_000), 2_000);
        due.notice(x, 1_900, 3, 0, 1, 1, 1_901);
        due.notice(x, 1_901, 3, 0, 1, 0, 1_902);
        due.notice(x, 1_999, 3, 0, 1, 0, 2_000);
        ClosureRows covered = new ClosureRows();
        covered.step(3, 0, 1);
        covered.close(Due.CROSSING, 0, 1, 1, 50, 501);
        covered.close(Due.WORKS, 0, 1, 5, 30, 0);
        due.is("closed by two: told when the last one opens", covered.tick(60), 2 + 2 + 4 * 2);
        due.notice(covered, 2, 3, 0, 1, 1, 5);
        due.notice(covered, 3, 3, 0, 1, 0, 30);
        ClosureRows whole = new ClosureRows();
        whole.step(3, 0, 1);
        whole.close(Due.CROSSING, 0, 1, 1, 50, 505);
        whole.close(Due.CROSSING, 0, 1, 1, 50, 500);
        due.is("a period closed as a whole", whole.tick(60), 2);
    }

    private static void firstAndLastMinuteOfATick(Due due) {
        due.by("for each minute that tick() goes on to");
        int[] starts = {0, 1, 10, 11};
        int[] told = {0, 1, 1, 0};
        for (int n = 0; n < starts.length; n++) {
            ClosureRows x = new ClosureRows();
            x.close(Due.FLOOD, 0, 1, starts[n], 0, 0);
            x.step(3, 0, 1);
            due.is("tick(10) with a flood from " + starts[n], x.tick(10), told[n]);
            due.is("tick(1) behind it", x.tick(1), starts[n] == 11 ? 1 : 0);
        }
    }

    private static void moreThanAreKept(Due due) {
        due.by("how many notices there were");
        ClosureRows x = new ClosureRows();
        x.step(3, 0, 1);
        x.close(Due.CROSSING, 0, 1, 1, 2_001, 201);
        due.is("tick(101)", x.tick(101), 101);
        due.is("tick(99)", x.tick(99), 99);
        due.is("tick(100)", x.tick(100), 100);
    }
}
