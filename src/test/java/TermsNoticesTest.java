/** Which notices are kept, and in which order they come. */
public final class TermsNoticesTest {
    public static void main(String[] args) {
        Due due = new Due();
        theLatestHundred(due);
        moreThanHundredOfOneCall(due);
        ofOneMinute(due);
        oneSideOnly(due);
        behindEachCall(due);
        due.end();
    }

    private static void theLatestHundred(Due due) {
        due.by("The latest 100 notices are kept.");
        for (int total : new int[] {1, 2, 99, 100, 101, 102, 199, 200, 201, 1_000, 2_000}) {
            ClosureRows x = new ClosureRows();
            x.step(1, 0, 2);
            x.close(Due.CROSSING, 0, 2, 1, 99_999, 201);
            due.is("tick(" + total + ")", x.tick(total), total);
            int first = Math.max(0, total - 100);
            due.is("the one before the first kept of " + total, Due.isKept(x, first - 1), false);
            for (int i = first; i < total; i++) {
                due.is("notice(" + i + ", 4) of " + total, x.notice(i, 4), i + 1);
                due.is("notice(" + i + ", 3) of " + total, x.notice(i, 3), (i + 1) % 2);
            }
            due.notice(x, first, 1, 0, 2, (first + 1) % 2, first + 1);
            due.notice(x, total - 1, 1, 0, 2, total % 2, total);
            due.is("the one behind the last of " + total, Due.isKept(x, total), false);
        }
    }

    /** Ten routes of 12 sides each: 120 notices of one minute, of which the first 20 are not kept. */
    private static void moreThanHundredOfOneCall(Due due) {
        due.by("The latest 100 notices are kept.");
        ClosureRows x = new ClosureRows();
        for (int n = 11; n >= 0; n--) {
            x.close(Due.SCENE, 10 + n / 2, 1 + n % 2, 0, 0, 4);
            for (int unit = 9; unit >= 0; unit--) {
                x.step(unit, 10 + n / 2, 1 + n % 2);
            }
        }
        x.tick(6);
        x.incident(4, true);
        due.is("notice 19 is kept", Due.isKept(x, 19), false);
        for (int i = 20; i < 120; i++) {
            due.is("notice(" + i + ", 0)", x.notice(i, 0), i % 10);
            due.is("notice(" + i + ", 1)", x.notice(i, 1), 10 + i / 20);
            due.is("notice(" + i + ", 2)", x.notice(i, 2), 1 + i / 10 % 2);
        }
        due.is("notice(119, 3)", x.notice(119, 3), 1);
        due.is("notice(119, 4)", x.notice(119, 4), 6);
        due.notices(x, 120);
    }

    private static void ofOneMinute(Due due) {
        due.by("Of one minute: by pieces, then sides, then units.");
        ClosureRows x = new ClosureRows();
        for (int unit : new int[] {9, 0, 4}) {
            x.step(unit, 2, 2);
            x.step(unit, 1, 2);
            x.step(unit, 2, 1);
        }
        x.close(Due.WORKS, 2, 3, 5, 9, 0);
        x.close(Due.WORKS, 1, 2, 5, 9, 0);
        due.is("tick(5)", x.tick(5), 9);
        int[][] want = {
            {0, 1, 2}, {4, 1, 2}, {9, 1, 2},
            {0, 2, 1}, {4, 2, 1}, {9, 2, 1},
            {0, 2, 2}, {4, 2, 2}, {9, 2, 2},
        };
        for (int i = 0; i < want.length; i++) {
            due.notice(x, i, want[i][0], want[i][1], want[i][2], 1, 5);
        }
        x.close(Due.WORKS, 2, 1, 5, 20, 0);
        due.is("tick(4), one side stays closed", x.tick(4), 6);
        int[] pieces = {1, 1, 1, 2, 2, 2};
        for (int i = 0; i < pieces.length; i++) {
            due.notice(x, 9 + i, want[i][0], pieces[i], 2, 0, 9);
        }
    }

    private static void oneSideOnly(Due due) {
        due.by("when a side of a step was closed (open) and is open (closed) now");
        for (int side = 1; side <= 2; side++) {
            ClosureRows x = new ClosureRows();
            x.step(6, 3, 1);
            x.step(6, 3, 2);
            x.close(Due.WORKS, 3, side, 2, 4, 0);
            due.is("tick(3), side " + side, x.tick(3), 1);
            due.notice(x, 0, 6, 3, side, 1, 2);
        }
    }

    private static void behindEachCall(Due due) {
        due.by("behind each call that changes closures, incidents or answers (at the clock's minute)");
        ClosureRows x = new ClosureRows();
        x.step(0, 0, 1);
        x.step(0, 1, 1);
        x.step(0, 2, 1);
        x.tick(3);
        x.close(Due.WORKS, 0, 1, 3, 50, 0);
        due.notice(x, 0, 0, 0, 1, 1, 3);
        x.close(Due.WORKS, 0, 1, 4, 50, 0);
        x.close(Due.WORKS, 1, 1, 0, 3, 0);
        due.notices(x, 1);
        x.close(Due.EVENT, 1, 1, 3, 50, 0);
        due.notices(x, 1);
        x.answer(3, true);
        due.notice(x, 1, 0, 1, 1, 1, 3);
        x.close(Due.SCENE, 2, 1, 3, 0, 19);
        due.notices(x, 2);
        x.incident(19, true);
        due.notice(x, 2, 0, 2, 1, 1, 3);
        x.lift(0, 0);
        due.notice(x, 3, 0, 0, 1, 0, 3);
        due.is("tick(1), closed again", x.tick(1), 1);
        due.notice(x, 4, 0, 0, 1, 1, 4);
        x.incident(19, false);
        due.notice(x, 5, 0, 2, 1, 0, 4);
        due.notices(x, 6);
    }
}
