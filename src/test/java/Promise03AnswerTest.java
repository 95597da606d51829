public final class Promise03AnswerTest {
    public static void main(String[] args) {
        Due due = new Due();
        allowedOrNot(due);
        refusals(due);
        unitsAreTold(due);
        aLiftedEventIsAnsweredStill(due);
        due.end();
    }

    private static void allowedOrNot(Due due) {
        ClosureRows x = new ClosureRows();
        x.close(Due.EVENT, 8, 1, 10, 20, 0);
        x.close(Due.EVENT, 8, 2, 10, 20, 0);
        due.is("before the answer", x.closed(8, 1, 10), false);
        due.is("reason before the answer", x.reason(8, 1, 10, 0), -1);
        x.answer(0, true);
        x.answer(1, false);
        due.is("allowed, before it begins", x.closed(8, 1, 9), false);
        due.is("allowed, its first minute", x.closed(8, 1, 10), true);
        due.is("allowed, its last minute", x.closed(8, 1, 19), true);
        due.is("allowed, its end", x.closed(8, 1, 20), false);
        due.is("not allowed", x.minutes(8, 2, 0, 100), 0);
        due.is("reason, not allowed", x.reason(8, 2, 10, 0), -1);
    }

    private static void refusals(Due due) {
        ClosureRows x = new ClosureRows();
        int[] others = {Due.WORKS, Due.SCENE, Due.FLOOD, Due.CROSSING, Due.SLOW};
        for (int n = 0; n < others.length; n++) {
            int closure = x.close(others[n], 1, 1, 0, 9, others[n] == Due.CROSSING ? 201 : 3);
            due.refuses("answer of kind " + others[n], Due.STATE, () -> x.answer(closure, true));
        }
        int yes = x.close(Due.EVENT, 2, 1, 0, 9, 0);
        int no = x.close(Due.EVENT, 3, 1, 0, 9, 0);
        for (int unknown : new int[] {Integer.MIN_VALUE, -1, 7, 100, Integer.MAX_VALUE}) {
            due.refuses("answer(" + unknown + ")", Due.UNKNOWN, () -> x.answer(unknown, true));
        }
        x.answer(yes, true);
        x.answer(no, false);
        for (boolean again : new boolean[] {true, false}) {
            due.refuses("answered yes, again", Due.STATE, () -> x.answer(yes, again));
            due.refuses("answered no, again", Due.STATE, () -> x.answer(no, again));
        }
        due.is("yes stays", x.closed(2, 1, 0), true);
        due.is("no stays", x.closed(3, 1, 0), false);
    }

    private static void unitsAreTold(Due due) {
        ClosureRows x = new ClosureRows();
        x.step(4, 8, 2);
        x.tick(15);
        x.close(Due.EVENT, 8, 2, 10, 20, 0);
        due.notices(x, 0);
        x.answer(0, true);
        due.notices(x, 1);
        due.notice(x, 0, 4, 8, 2, 1, 15);
        x.close(Due.EVENT, 8, 1, 10, 20, 0);
        x.answer(1, false);
        due.notices(x, 1);
    }

    private static void aLiftedEventIsAnsweredStill(Due due) {
        ClosureRows x = new ClosureRows();
        x.close(Due.EVENT, 8, 1, 0, 20, 0);
        x.tick(5);
        due.is("lift(0, 0)", x.lift(0, 0), true);
        x.answer(0, true);
        due.is("up to its lifting", x.closed(8, 1, 4), true);
        due.is("from its lifting on", x.closed(8, 1, 5), false);
    }
}
