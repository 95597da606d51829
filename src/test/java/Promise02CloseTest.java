public final class Promise02CloseTest {
    private static final int MIN = Integer.MIN_VALUE;
    private static final int MAX = Integer.MAX_VALUE;

    public static void main(String[] args) {
        Due due = new Due();
        itsNumber(due);
        toDoesNotMatter(due);
        xDoesNotMatter(due);
        xOfAScene(due);
        xOfACrossing(due);
        xOfSlow(due);
        unknownKindOrPiece(due);
        unknownIncident(due);
        rangeOfSides(due);
        rangeOfFrom(due);
        rangeOfTo(due);
        noRoom(due);
        due.end();
    }

    private static void itsNumber(Due due) {
        due.by("A closure: its number.");
        for (int kind = Due.WORKS; kind <= Due.SLOW; kind++) {
            ClosureRows x = new ClosureRows();
            for (int n = 0; n < 100; n++) {
                due.is("close of kind " + kind, x.close(kind, n % 60, 1 + n % 3, n, 99_999, Due.goodX(kind)), n);
            }
        }
    }

    private static void toDoesNotMatter(Due due) {
        due.by("Of a scene, a flood to does not matter");
        int[] kinds = {Due.SCENE, Due.FLOOD};
        for (int to : new int[] {MIN, -1, 0, 49, 50, 51, 99_999, 100_000, MAX}) {
            for (int kind : kinds) {
                ClosureRows x = new ClosureRows();
                x.incident(7, true);
                String what = "kind " + kind + " to " + to;
                due.is(what, x.close(kind, 0, 1, 50, to, 7), 0);
                due.is(what + ", before it begins", x.closed(0, 1, 49), false);
                due.is(what + ", its first minute", x.closed(0, 1, 50), true);
                due.is(what + ", the last minute", x.closed(0, 1, 99_999), true);
                x.tick(100);
                due.is(what + ", lifted by one", x.lift(0, 1), kind == Due.SCENE);
            }
        }
    }

    private static void xDoesNotMatter(Due due) {
        due.by("A closure: its number.");
        for (int any : new int[] {MIN, -1, 0, 19, 20, 99, 100, 9_999, 10_000, MAX}) {
            ClosureRows x = new ClosureRows();
            due.is("works' x " + any, x.close(Due.WORKS, 0, 1, 5, 6, any), 0);
            due.is("an event's x " + any, x.close(Due.EVENT, 1, 1, 5, 6, any), 1);
            due.is("a flood's x " + any, x.close(Due.FLOOD, 2, 1, 5, 0, any), 2);
            x.answer(1, true);
            for (int piece = 0; piece < 3; piece++) {
                due.is("closed with x " + any, x.closed(piece, 1, 5), true);
                due.is("speed with x " + any, x.speed(piece, 1, 5), 100);
            }
        }
    }

    private static void xOfAScene(Due due) {
        due.by("of a scene x is its incident");
        for (int incident = 0; incident < 20; incident++) {
            ClosureRows x = new ClosureRows();
            x.close(Due.SCENE, 0, 1, 0, 0, incident);
            for (int i = 0; i < 20; i++) {
                x.incident(i, true);
                due.is("scene of " + incident + ", open is " + i, x.closed(0, 1, 0), i == incident);
                x.incident(i, false);
            }
        }
    }

    private static void xOfACrossing(Due due) {
        due.by("of a crossing x is 100 times the period (1 .. 99) and the length (0 .. the period)");
        int taken = 0;
        for (int x = -250; x <= 10_350; x++) {
            taken += takesTimetable(due, x) ? 1 : 0;
        }
        due.is("how many timetables there are", taken, 99 + 99 * 100 / 2);
        for (int x : new int[] {MIN, MIN + 101, -10_000, 65_637, 1_000_101, MAX - 47, MAX}) {
            takesTimetable(due, x);
        }
        for (int x : new int[] {-100, -1, 0, 99, 102, 199, 203, 9_899, 10_000, 10_001}) {
            due.refuses("timetable " + x, Due.RANGE, Rows::busy, o -> o.close(Due.CROSSING, 0, 1, 0, 9, x));
        }
    }

    private static boolean takesTimetable(Due due, int timetable) {
        int period = timetable / 100;
        int length = timetable - 100 * period;
        boolean good = timetable >= 0 && 1 <= period && period <= 99 && length <= period;
        ClosureRows x = new ClosureRows();
        if (good) {
            due.is("timetable " + timetable, x.close(Due.CROSSING, 0, 1, 0, 99_999, timetable), 0);
        } else {
            due.refuses("timetable " + timetable, Due.RANGE, () -> x.close(Due.CROSSING, 0, 1, 0, 99_999, timetable));
        }
        return good;
    }

    private static void xOfSlow(Due due) {
        due.by("of SLOW x is the percent (1 .. 99)");
        for (int percent = 1; percent <= 99; percent++) {
            ClosureRows x = new ClosureRows();
            due.is("percent " + percent, x.close(Due.SLOW, 0, 1, 0, 1, percent), 0);
            due.is("speed at percent " + percent, x.speed(0, 1, 0), percent);
        }
        for (int percent : Due.beside(1, 99)) {
            due.refuses("percent " + percent, Due.RANGE, Rows::busy, x -> x.close(Due.SLOW, 0, 1, 0, 1, percent));
        }
    }

    private static void unknownKindOrPiece(Due due) {
        due.by("Unknown: no such kind or piece");
        for (int kind : Due.beside(0, 5)) {
            due.refuses("kind " + kind, Due.UNKNOWN, Rows::busy, x -> x.close(kind, 0, 1, 0, 1, 7));
        }
        for (int kind = Due.WORKS; kind <= Due.SLOW; kind++) {
            int k = kind;
            for (int piece : Due.beside(0, 59)) {
                due.refuses("kind " + k + " of piece " + piece, Due.UNKNOWN, Rows::busy,
                        x -> x.close(k, piece, 1, 0, 1, Due.goodX(k)));
            }
            due.is("kind " + k + " of piece 0", Rows.busy().close(k, 0, 1, 0, 1, Due.goodX(k)), Rows.BUSY_CLOSURES);
            due.is("kind " + k + " of piece 59", Rows.busy().close(k, 59, 1, 0, 1, Due.goodX(k)), Rows.BUSY_CLOSURES);
        }
    }

    private static void unknownIncident(Due due) {
        due.by("Unknown: no such kind or piece (a scene: incident)");
        for (int incident : Due.beside(0, 19)) {
            due.refuses("incident " + incident, Due.UNKNOWN, Rows::busy,
                    x -> x.close(Due.SCENE, 0, 1, 0, 1, incident));
        }
        due.is("incident 0", Rows.busy().close(Due.SCENE, 0, 1, 0, 1, 0), Rows.BUSY_CLOSURES);
        due.is("incident 19", Rows.busy().close(Due.SCENE, 0, 1, 0, 1, 19), Rows.BUSY_CLOSURES);
    }

    private static void rangeOfSides(Due due) {
        due.by("range: side 1 .. 3");
        for (int kind = Due.WORKS; kind <= Due.SLOW; kind++) {
            int k = kind;
            for (int side : Due.beside(1, 3)) {
                due.refuses("kind " + k + " of side " + side, Due.RANGE, Rows::busy,
                        x -> x.close(k, 0, side, 0, 1, Due.goodX(k)));
            }
            for (int side = 1; side <= 3; side++) {
                ClosureRows x = new ClosureRows();
                due.is("kind " + k + " of side " + side, x.close(k, 30, side, 0, 1, Due.goodX(k)), 0);
                if (kind == Due.EVENT) {
                    x.answer(0, true);
                }
                x.incident(7, true);
                due.is("kind " + k + " of side " + side + ", on side 1", x.reason(30, 1, 0, 0), side == 2 ? -1 : 0);
                due.is("kind " + k + " of side " + side + ", on side 2", x.reason(30, 2, 0, 0), side == 1 ? -1 : 0);
            }
        }
    }

    private static void rangeOfFrom(Due due) {
        due.by("range: .. from and to");
        for (int kind = Due.WORKS; kind <= Due.SLOW; kind++) {
            int k = kind;
            for (int from : Due.beside(0, 99_999)) {
                due.refuses("kind " + k + " from " + from, Due.RANGE, Rows::busy,
                        x -> x.close(k, 0, 1, from, 99_999, Due.goodX(k)));
            }
            due.is("kind " + k + " from 0", Rows.busy().close(k, 0, 1, 0, 1, Due.goodX(k)), Rows.BUSY_CLOSURES);
            due.is("kind " + k + " from 99,998", Rows.busy().close(k, 0, 1, 99_998, 99_999, Due.goodX(k)),
                    Rows.BUSY_CLOSURES);
            if (Due.hasEnd(kind)) {
                due.refuses("kind " + k + " from 99,999", Due.RANGE, Rows::busy,
                        x -> x.close(k, 0, 1, 99_999, 99_999, Due.goodX(k)));
            } else {
                due.is("kind " + k + " from 99,999", Rows.busy().close(k, 0, 1, 99_999, 0, 7), Rows.BUSY_CLOSURES);
            }
        }
    }

    private static void rangeOfTo(Due due) {
        due.by("to (not above from, but for scenes and floods)");
        for (int kind : new int[] {Due.WORKS, Due.EVENT, Due.CROSSING, Due.SLOW}) {
            for (int to : new int[] {MIN, -1, 0, 49, 50, 100_000, MAX}) {
                due.refuses("kind " + kind + ", 50 to " + to, Due.RANGE, Rows::busy,
                        x -> x.close(kind, 0, 1, 50, to, Due.goodX(kind)));
            }
            for (int to : new int[] {51, 99_999}) {
                due.is("kind " + kind + ", 50 to " + to, Rows.busy().close(kind, 0, 1, 50, to, Due.goodX(kind)),
                        Rows.BUSY_CLOSURES);
            }
        }
    }

    private static void noRoom(Due due) {
        due.by("no room: there are 100");
        ClosureRows x = new ClosureRows();
        for (int n = 0; n < 100; n++) {
            due.is("closure " + n, x.close(n % 6, n % 60, 3, 0, 5, Due.goodX(n % 6)), n);
        }
        for (int kind = Due.WORKS; kind <= Due.SLOW; kind++) {
            int k = kind;
            due.refuses("the 101st, of kind " + k, Due.NO_ROOM, () -> x.close(k, 0, 1, 0, 5, Due.goodX(k)));
            due.refuses("of full rows, kind " + k, Due.NO_ROOM, Rows::full, o -> o.close(k, 0, 1, 0, 5, Due.goodX(k)));
        }
        x.lift(0, 1);
        x.tick(10);
        due.refuses("the 101st, when one is lifted and all are gone", Due.NO_ROOM,
                () -> x.close(Due.WORKS, 0, 1, 20, 25, 0));
    }
}
