public final class Promise14NoticeTest {
    public static void main(String[] args) {
        Due due = new Due();
        whatANoticeTells(due);
        theLatestHundred(due);
        nothingWithoutAChange(due);
        unknown(due);
        due.end();
    }

    private static void whatANoticeTells(Due due) {
        ClosureRows x = new ClosureRows();
        x.step(8, 57, 2);
        x.tick(33);
        x.close(Due.WORKS, 57, 2, 0, 40, 0);
        due.notice(x, 0, 8, 57, 2, 1, 33);
        x.tick(20);
        due.notice(x, 0, 8, 57, 2, 1, 33);
        due.notice(x, 1, 8, 57, 2, 0, 40);
        due.notices(x, 2);
    }

    private static void theLatestHundred(Due due) {
        ClosureRows x = new ClosureRows();
        x.step(1, 0, 1);
        x.close(Due.CROSSING, 0, 1, 1, 99_999, 201);
        x.tick(100);
        due.notice(x, 0, 1, 0, 1, 1, 1);
        due.notice(x, 99, 1, 0, 1, 0, 100);
        due.notices(x, 100);
        x.tick(1);
        due.refuses("notice(0, 0) of 101", Due.UNKNOWN, () -> x.notice(0, 0));
        due.notice(x, 1, 1, 0, 1, 0, 2);
        due.notice(x, 100, 1, 0, 1, 1, 101);
        x.tick(1000);
        due.notices(x, 1101);
        due.refuses("notice(1000, 4) of 1,101", Due.UNKNOWN, () -> x.notice(1000, 4));
        for (int i = 1001; i < 1101; i++) {
            due.notice(x, i, 1, 0, 1, (i + 1) % 2, i + 1);
        }
    }

    private static void nothingWithoutAChange(Due due) {
        ClosureRows x = new ClosureRows();
        x.step(1, 0, 1);
        x.close(Due.WORKS, 0, 1, 0, 50, 0);
        due.notices(x, 1);
        x.close(Due.WORKS, 0, 1, 0, 40, 0);
        x.close(Due.FLOOD, 0, 2, 0, 0, 0);
        x.close(Due.SLOW, 0, 3, 0, 50, 5);
        x.close(Due.FLOOD, 1, 1, 0, 0, 0);
        x.lift(0, 1);
        due.notices(x, 1);
        x.lift(1, 1);
        due.notices(x, 2);
        due.notice(x, 1, 1, 0, 1, 0, 0);
    }

    private static void unknown(Due due) {
        ClosureRows x = new ClosureRows();
        due.refuses("notice(0, 0) of none", Due.UNKNOWN, () -> x.notice(0, 0));
        x.step(1, 0, 1);
        x.close(Due.FLOOD, 0, 1, 0, 0, 0);
        for (int i : new int[] {Integer.MIN_VALUE, -1, 1, 99, 100, Integer.MAX_VALUE}) {
            due.refuses("notice(" + i + ", 0)", Due.UNKNOWN, () -> x.notice(i, 0));
        }
        for (int what : new int[] {Integer.MIN_VALUE, -1, 5, 6, Integer.MAX_VALUE}) {
            due.refuses("notice(0, " + what + ")", Due.UNKNOWN, () -> x.notice(0, what));
        }
    }
}
