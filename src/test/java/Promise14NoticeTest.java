public final class Promise14NoticeTest {
    public static void main(String[] args) {
        Due due = new Due();
        whatANoticeTells(due);
        nothingWithoutAChange(due);
        noneSuch(due);
        noneSuchKept(due);
        noSuchWhat(due);
        due.end();
    }

    private static void whatANoticeTells(Due due) {
        due.by("what 0 its unit, 1 piece, 2 side, 3 whether it is closed (1, 0), 4 the minute");
        ClosureRows x = new ClosureRows();
        x.step(8, 57, 2);
        x.tick(33);
        x.close(Due.WORKS, 57, 2, 0, 40, 0);
        due.notice(x, 0, 8, 57, 2, 1, 33);
        x.tick(20);
        due.notice(x, 0, 8, 57, 2, 1, 33);
        due.notice(x, 1, 8, 57, 2, 0, 40);
        due.notices(x, 2);
    }

    private static void nothingWithoutAChange(Due due) {
        due.by("when a side of a step was closed (open) and is open (closed) now");
        ClosureRows x = new ClosureRows();
        x.step(1, 0, 1);
        x.close(Due.WORKS, 0, 1, 0, 50, 0);
        due.notices(x, 1);
        x.close(Due.WORKS, 0, 1, 0, 40, 0);
        x.close(Due.FLOOD, 0, 2, 0, 0, 0);
        x.close(Due.SLOW, 0, 3, 0, 50, 5);
        x.close(Due.FLOOD, 1, 1, 0, 0, 0);
        x.lift(0, 1);
        due.notices(x, 1);
        x.lift(1, 1);
        due.notices(x, 2);
        due.notice(x, 1, 1, 0, 1, 0, 0);
    }

    private static void noneSuch(Due due) {
        due.by("Unknown: there is none such");
        for (int what = 0; what < 5; what++) {
            int w = what;
            due.refuses("notice(0, " + w + ") of none", Due.UNKNOWN, Rows::fresh, x -> x.notice(0, w));
            for (int i : Due.beside(0, Rows.BUSY_NOTICES - 1)) {
                due.refuses("notice(" + i + ", " + w + ")", Due.UNKNOWN, Rows::busy, x -> x.notice(i, w));
            }
        }
        due.notice(Rows.busy(), 0, 0, 0, 1, 1, 0);
        due.notice(Rows.busy(), Rows.BUSY_NOTICES - 1, 0, 58, 1, 1, 20);
    }

    private static void noneSuchKept(Due due) {
        due.by("Unknown: there is none such (kept)");
        int first = Rows.FULL_NOTICES - 100;
        for (int i : Due.beside(first, Rows.FULL_NOTICES - 1)) {
            due.refuses("notice(" + i + ", 0)", Due.UNKNOWN, Rows::full, x -> x.notice(i, 0));
        }
        due.refuses("notice(0, 0)", Due.UNKNOWN, Rows::full, x -> x.notice(0, 0));
        due.is("the first kept is there", Due.isKept(Rows.full(), first), true);
        due.is("the last is there", Due.isKept(Rows.full(), Rows.FULL_NOTICES - 1), true);
    }

    private static void noSuchWhat(Due due) {
        due.by("or no such what");
        for (int what : Due.beside(0, 4)) {
            due.refuses("notice(0, " + what + ")", Due.UNKNOWN, Rows::busy, x -> x.notice(0, what));
            due.refuses("the last, " + what, Due.UNKNOWN, Rows::full, x -> x.notice(Rows.FULL_NOTICES - 1, what));
            due.refuses("none such, " + what, Due.UNKNOWN, Rows::busy, x -> x.notice(Rows.BUSY_NOTICES, what));
        }
    }
}
