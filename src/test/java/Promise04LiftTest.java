public final class Promise04LiftTest {
    public static void main(String[] args) {
        Due due = new Due();
        eachKindButTwo(due);
        floodsByTwo(due);
        aWordIsOfOneFlood(due);
        beforeItBegins(due);
        refusals(due);
        endsAtTheClock(due);
        unitsAreTold(due);
        due.end();
    }

    private static void eachKindButTwo(Due due) {
        ClosureRows x = new ClosureRows();
        x.close(Due.WORKS, 0, 3, 2, 50, 0);
        x.close(Due.EVENT, 1, 3, 2, 50, 0);
        x.close(Due.SCENE, 2, 3, 2, 0, 0);
        x.close(Due.SLOW, 3, 3, 2, 50, 40);
        x.answer(1, true);
        x.incident(0, true);
        x.tick(10);
        for (int n = 0; n < 4; n++) {
            int closure = n;
            due.is("lift(" + n + ", 999)", x.lift(n, 999 * (n % 2)), true);
            due.refuses("lifted before: " + n, Due.STATE, () -> x.lift(closure, 5));
            for (int t : new int[] {1, 2, 9, 10, 11, 49}) {
                boolean holds = t >= 2 && t < 10;
                due.is("reason(" + n + ", 1, " + t + ", 0)", x.reason(n, 1, t, 0), holds ? n : -1);
                due.is("closed(" + n + ", 1, " + t + ")", x.closed(n, 1, t), holds && n != 3);
            }
        }
        due.is("slow up to its lifting", x.speed(3, 2, 9), 40);
        due.is("slow from its lifting on", x.speed(3, 2, 10), 100);
        x.incident(0, false);
        x.incident(0, true);
        due.is("a lifted scene stays lifted", x.closed(2, 1, 10), false);
    }

    private static void floodsByTwo(Due due) {
        ClosureRows x = new ClosureRows();
        x.close(Due.FLOOD, 7, 1, 0, 0, 0);
        x.tick(3);
        due.is("the first one's word", x.lift(0, 0), false);
        due.is("the same one's again", x.lift(0, 0), false);
        due.is("still closed", x.closed(7, 1, 3), true);
        x.tick(3);
        due.is("the same one's later", x.lift(0, 0), false);
        due.is("another one's", x.lift(0, 999), true);
        due.is("up to its lifting", x.closed(7, 1, 5), true);
        due.is("from its lifting on", x.closed(7, 1, 6), false);
        due.refuses("lifted, the first one", Due.STATE, () -> x.lift(0, 0));
        due.refuses("lifted, another one", Due.STATE, () -> x.lift(0, 999));
        due.refuses("lifted, a third one", Due.STATE, () -> x.lift(0, 5));
    }

    private static void aWordIsOfOneFlood(Due due) {
        ClosureRows x = new ClosureRows();
        x.close(Due.FLOOD, 7, 1, 0, 0, 0);
        x.close(Due.FLOOD, 7, 1, 0, 0, 0);
        due.is("lift(0, 3)", x.lift(0, 3), false);
        due.is("lift(1, 4)", x.lift(1, 4), false);
        due.is("lift(1, 3)", x.lift(1, 3), true);
        due.is("lift(0, 4)", x.lift(0, 4), true);
    }

    private static void beforeItBegins(Due due) {
        ClosureRows x = new ClosureRows();
        x.close(Due.WORKS, 7, 1, 20, 30, 0);
        x.tick(5);
        due.is("lift(0, 1)", x.lift(0, 1), true);
        due.is("it holds never", x.minutes(7, 1, 0, 100), 0);
        due.refuses("lift again", Due.STATE, () -> x.lift(0, 1));
    }

    private static void refusals(Due due) {
        ClosureRows x = new ClosureRows();
        x.close(Due.CROSSING, 0, 1, 0, 500, 201);
        x.close(Due.WORKS, 0, 1, 0, 500, 0);
        for (int unknown : new int[] {Integer.MIN_VALUE, -1, 2, 100, Integer.MAX_VALUE}) {
            due.refuses("lift(" + unknown + ", 0)", Due.UNKNOWN, () -> x.lift(unknown, 0));
            due.refuses("lift(" + unknown + ", 1000)", Due.UNKNOWN, () -> x.lift(unknown, 1000));
        }
        for (int by : new int[] {Integer.MIN_VALUE, -1, 1000, Integer.MAX_VALUE}) {
            due.refuses("lift(1, " + by + ")", Due.RANGE, () -> x.lift(1, by));
            due.refuses("lift of a crossing by " + by, Due.RANGE, () -> x.lift(0, by));
        }
        due.refuses("lift of a crossing", Due.STATE, () -> x.lift(0, 0));
        due.is("still closed", x.closed(0, 1, 499), true);
        due.is("lift(1, 999)", x.lift(1, 999), true);
    }

    private static void endsAtTheClock(Due due) {
        int[] kinds = {Due.WORKS, Due.EVENT, Due.SLOW};
        for (int kind : kinds) {
            ClosureRows x = new ClosureRows();
            x.close(kind, 0, 1, 0, 10, 50);
            x.close(kind, 0, 1, 0, 11, 50);
            x.close(kind, 0, 1, 0, 9, 50);
            x.tick(10);
            due.refuses("its end is the clock, kind " + kind, Due.STATE, () -> x.lift(0, 1));
            due.is("its end is above the clock, kind " + kind, x.lift(1, 1), true);
            due.refuses("its end is gone, kind " + kind, Due.STATE, () -> x.lift(2, 1));
        }
        ClosureRows x = new ClosureRows();
        x.close(Due.SCENE, 0, 1, 0, 1, 0);
        x.close(Due.FLOOD, 0, 1, 0, 1, 0);
        x.tick(10);
        due.is("a scene has no end", x.lift(0, 1), true);
        due.is("a flood has no end", x.lift(1, 1), false);
        due.is("a flood has no end, the other one", x.lift(1, 2), true);
    }

    private static void unitsAreTold(Due due) {
        ClosureRows x = new ClosureRows();
        x.step(9, 59, 2);
        x.close(Due.FLOOD, 59, 3, 0, 0, 0);
        x.tick(7);
        x.lift(0, 1);
        due.notices(x, 1);
        x.lift(0, 2);
        due.notices(x, 2);
        due.notice(x, 0, 9, 59, 2, 1, 0);
        due.notice(x, 1, 9, 59, 2, 0, 7);
        x.close(Due.SLOW, 59, 3, 0, 50, 50);
        x.lift(1, 1);
        due.notices(x, 2);
    }
}
