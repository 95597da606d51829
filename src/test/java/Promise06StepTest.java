public final class Promise06StepTest {
    public static void main(String[] args) {
        Due due = new Due();
        howMany(due);
        emptied(due);
        sideOfPieceMinusOne(due);
        unknown(due);
        range(due);
        noRoom(due);
        due.end();
    }

    private static void howMany(Due due) {
        due.by("One more step of a unit's route: how many");
        ClosureRows x = new ClosureRows();
        for (int n = 1; n <= 12; n++) {
            for (int unit = 0; unit < 10; unit++) {
                due.is("step " + n + " of unit " + unit, x.step(unit, 59 * (n % 2), 1 + n % 2), n);
            }
        }
        for (int unit = 0; unit < 10; unit++) {
            int full = unit;
            due.refuses("the 13th step of unit " + unit, Due.NO_ROOM, () -> x.step(full, 0, 1));
        }
    }

    private static void emptied(Due due) {
        due.by("piece -1: the route is empty");
        for (int length : new int[] {0, 1, 11, 12}) {
            ClosureRows x = new ClosureRows();
            for (int n = 0; n < length; n++) {
                x.step(0, 1, 1);
            }
            x.step(1, 1, 1);
            due.is("of " + length + " steps", x.step(0, -1, 1), 0);
            x.close(Due.FLOOD, 1, 1, 0, 0, 0);
            due.notices(x, 1);
            due.notice(x, 0, 1, 1, 1, 1, 0);
            due.is("blocked(0), emptied", x.blocked(0), 0);
            due.is("blocked(1), not emptied", x.blocked(1), 1);
            for (int n = 1; n <= 12; n++) {
                due.is("step " + n + " of an emptied route", x.step(0, 1, 1), n);
            }
            due.is("blocked(0), filled again", x.blocked(0), 12);
            due.refuses("the 13th step", Due.NO_ROOM, () -> x.step(0, 1, 1));
        }
    }

    private static void sideOfPieceMinusOne(Due due) {
        due.by("of piece -1 it does not matter");
        for (int side : new int[] {Integer.MIN_VALUE, -1, 0, 1, 2, 3, Integer.MAX_VALUE}) {
            for (int unit : new int[] {0, 9}) {
                ClosureRows x = Rows.full();
                due.is("step(" + unit + ", -1, " + side + ")", x.step(unit, -1, side), 0);
                due.is("the next step", x.step(unit, 0, 1), 1);
            }
        }
    }

    private static void unknown(Due due) {
        due.by("Unknown: no such unit or piece");
        for (int unit : Due.beside(0, 9)) {
            due.refuses("unit " + unit, Due.UNKNOWN, Rows::busy, x -> x.step(unit, 0, 1));
            due.refuses("unit " + unit + ", emptied", Due.UNKNOWN, Rows::busy, x -> x.step(unit, -1, 1));
        }
        for (int piece : Due.beside(-1, 59)) {
            due.refuses("piece " + piece, Due.UNKNOWN, Rows::busy, x -> x.step(0, piece, 1));
        }
        due.is("unit 0, piece 0", Rows.busy().step(0, 0, 1), 4);
        due.is("unit 9, piece 59", Rows.busy().step(9, 59, 2), 2);
    }

    private static void range(Due due) {
        due.by("range: side 1 or 2");
        for (int side : Due.beside(1, 2)) {
            due.refuses("side " + side + " of piece 0", Due.RANGE, Rows::busy, x -> x.step(0, 0, side));
            due.refuses("side " + side + " of piece 59", Due.RANGE, Rows::busy, x -> x.step(9, 59, side));
        }
        due.is("side 1", Rows.busy().step(0, 59, 1), 4);
        due.is("side 2", Rows.busy().step(9, 0, 2), 2);
    }

    private static void noRoom(Due due) {
        due.by("no room: there are 12");
        due.refuses("the 13th step of unit 0", Due.NO_ROOM, Rows::full, x -> x.step(0, 0, 1));
        due.refuses("the 13th step of unit 9", Due.NO_ROOM, Rows::full, x -> x.step(9, 59, 2));
        for (int unit = 1; unit < 9; unit++) {
            due.is("a step of unit " + unit, Rows.full().step(unit, 0, 1), 1);
        }
    }
}
