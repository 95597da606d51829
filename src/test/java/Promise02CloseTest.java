public final class Promise02CloseTest {
    private static final int MIN = Integer.MIN_VALUE;
    private static final int MAX = Integer.MAX_VALUE;

    public static void main(String[] args) {
        Due due = new Due();
        numbersInOrder(due);
        eachKindHolds(due);
        sidesOfAClosure(due);
        whatDoesNotMatter(due);
        timetables(due);
        unknown(due);
        range(due);
        orderOfRefusals(due);
        noRoom(due);
        due.end();
    }

    private static void numbersInOrder(Due due) {
        ClosureRows x = new ClosureRows();
        for (int kind = Due.WORKS; kind <= Due.SLOW; kind++) {
            int good = kind == Due.CROSSING ? 201 : 7;
            due.is("close of kind " + kind, x.close(kind, 59 * (kind % 2), 3, 0, 99_999, good), kind);
        }
    }

    private static void eachKindHolds(Due due) {
        ClosureRows x = new ClosureRows();
        x.close(Due.WORKS, 0, 1, 10, 20, 0);
        x.close(Due.EVENT, 1, 1, 10, 20, 0);
        x.close(Due.SCENE, 2, 1, 10, 0, 19);
        x.close(Due.FLOOD, 3, 1, 10, 0, 0);
        x.close(Due.CROSSING, 4, 1, 10, 20, 401);
        x.close(Due.SLOW, 5, 1, 10, 20, 30);
        x.answer(1, true);
        x.incident(19, true);
        String[] holds = {"10-19", "10-19", "10-99999", "10-99999", "10-10,14-14,18-18", ""};
        int[] asked = {0, 9, 10, 11, 13, 14, 15, 18, 19, 20, 21, 22, 99_999};
        for (int piece = 0; piece < holds.length; piece++) {
            for (int t : asked) {
                due.is("closed(" + piece + ", 1, " + t + ")", x.closed(piece, 1, t), isIn(holds[piece], t));
            }
        }
        due.is("speed(5, 1, 9)", x.speed(5, 1, 9), 100);
        due.is("speed(5, 1, 10)", x.speed(5, 1, 10), 30);
        due.is("speed(5, 1, 19)", x.speed(5, 1, 19), 30);
        due.is("speed(5, 1, 20)", x.speed(5, 1, 20), 100);
    }

    private static boolean isIn(String spans, int t) {
        for (String span : spans.split(",")) {
            String[] ends = span.split("-");
            if (ends.length == 2 && t >= Integer.parseInt(ends[0]) && t <= Integer.parseInt(ends[1])) {
                return true;
            }
        }
        return false;
    }

    private static void sidesOfAClosure(Due due) {
        for (int side = 1; side <= 3; side++) {
            ClosureRows x = new ClosureRows();
            x.close(Due.FLOOD, 30, side, 0, 0, 0);
            due.is("side 1 of a closure of " + side, x.closed(30, 1, 0), side != 2);
            due.is("side 2 of a closure of " + side, x.closed(30, 2, 0), side != 1);
            for (int other = 1; other <= 2; other++) {
                due.is("the piece before", x.closed(29, other, 0), false);
                due.is("the piece behind", x.closed(31, other, 0), false);
            }
        }
    }

    private static void whatDoesNotMatter(Due due) {
        ClosureRows x = new ClosureRows();
        int n = 0;
        for (int any : new int[] {MIN, -1, 0, 5, 100_000, MAX}) {
            due.is("a scene's to " + any, x.close(Due.SCENE, 0, 1, 5, any, 0), n++);
            due.is("a flood's to " + any, x.close(Due.FLOOD, 1, 1, 5, any, 0), n++);
            due.is("a flood's x " + any, x.close(Due.FLOOD, 1, 1, 5, 0, any), n++);
            due.is("works' x " + any, x.close(Due.WORKS, 2, 1, 5, 6, any), n++);
            due.is("an event's x " + any, x.close(Due.EVENT, 2, 1, 5, 6, any), n++);
        }
        due.is("a flood goes on", x.closed(1, 1, 99_999), true);
    }

    private static void timetables(Due due) {
        ClosureRows x = new ClosureRows();
        int[] good = {100, 101, 200, 202, 9_900, 9_999};
        int[] closedOfHundred = {0, 100, 0, 100, 0, 100};
        for (int i = 0; i < good.length; i++) {
            due.is("timetable " + good[i], x.close(Due.CROSSING, i, 1, 0, 99_999, good[i]), i);
            due.is("minutes of timetable " + good[i], x.minutes(i, 1, 0, 100), closedOfHundred[i]);
        }
        for (int bad : new int[] {MIN, -101, -100, -1, 0, 1, 99, 102, 199, 203, 399, 10_000, 10_002, 10_100, MAX}) {
            due.refuses("timetable " + bad, Due.RANGE, () -> x.close(Due.CROSSING, 1, 1, 0, 9, bad));
        }
        x.close(Due.CROSSING, 40, 2, 7, 30, 1003);
        int[] closed = {7, 8, 9, 17, 18, 19, 27, 28, 29};
        due.is("minutes from its beginning on", x.minutes(40, 2, 0, 60), closed.length);
        for (int t : closed) {
            due.is("closed(40, 2, " + t + ")", x.closed(40, 2, t), true);
        }
    }

    private static void unknown(Due due) {
        ClosureRows x = new ClosureRows();
        for (int kind : new int[] {MIN, -1, 6, 7, MAX}) {
            due.refuses("kind " + kind, Due.UNKNOWN, () -> x.close(kind, 0, 1, 0, 1, 201));
        }
        for (int piece : new int[] {MIN, -1, 60, 61, MAX}) {
            due.refuses("piece " + piece, Due.UNKNOWN, () -> x.close(Due.WORKS, piece, 1, 0, 1, 0));
        }
        for (int incident : new int[] {MIN, -1, 20, 21, MAX}) {
            due.refuses("incident " + incident, Due.UNKNOWN, () -> x.close(Due.SCENE, 0, 1, 0, 1, incident));
        }
        due.is("the first number after refusals", x.close(Due.WORKS, 0, 1, 0, 1, 0), 0);
    }

    private static void range(Due due) {
        ClosureRows x = new ClosureRows();
        for (int side : new int[] {MIN, -1, 0, 4, 5, MAX}) {
            due.refuses("side " + side, Due.RANGE, () -> x.close(Due.WORKS, 0, side, 0, 1, 0));
        }
        for (int kind = Due.WORKS; kind <= Due.SLOW; kind++) {
            int k = kind;
            int good = kind == Due.CROSSING ? 201 : 7;
            for (int from : new int[] {MIN, -1, 100_000, MAX}) {
                due.refuses("from " + from + " of kind " + k, Due.RANGE, () -> x.close(k, 0, 1, from, 99_999, good));
            }
            if (kind != Due.SCENE && kind != Due.FLOOD) {
                for (int to : new int[] {MIN, -1, 0, 49, 50, 100_000, MAX}) {
                    due.refuses("to " + to + " of kind " + k, Due.RANGE, () -> x.close(k, 0, 1, 50, to, good));
                }
            }
        }
        for (int percent : new int[] {MIN, -1, 0, 100, 101, MAX}) {
            due.refuses("percent " + percent, Due.RANGE, () -> x.close(Due.SLOW, 0, 1, 0, 1, percent));
        }
        due.is("from and to at their edges", x.close(Due.WORKS, 0, 1, 99_998, 99_999, 0), 0);
        due.is("a flood's from at its edge", x.close(Due.FLOOD, 1, 1, 99_999, 0, 0), 1);
        due.is("the least percent", x.close(Due.SLOW, 0, 1, 0, 1, 1), 2);
        due.is("the greatest percent", x.close(Due.SLOW, 0, 2, 0, 1, 99), 3);
    }

    private static void orderOfRefusals(Due due) {
        ClosureRows x = new ClosureRows();
        due.refuses("unknown kind, side out of range", Due.UNKNOWN, () -> x.close(6, 0, 0, 0, 1, 0));
        due.refuses("unknown piece, from out of range", Due.UNKNOWN, () -> x.close(0, 60, 1, -1, 1, 0));
        due.refuses("unknown piece, x out of range", Due.UNKNOWN, () -> x.close(5, -1, 1, 0, 1, 0));
        due.refuses("unknown incident, side out of range", Due.UNKNOWN, () -> x.close(2, 0, 4, 0, 1, 20));
        due.refuses("unknown incident, from out of range", Due.UNKNOWN, () -> x.close(2, 0, 1, -1, 1, 20));
    }

    private static void noRoom(Due due) {
        ClosureRows x = new ClosureRows();
        for (int n = 0; n < 100; n++) {
            due.is("closure " + n, x.close(Due.WORKS, n % 60, 3, 0, 5, 0), n);
        }
        due.refuses("the 101st", Due.NO_ROOM, () -> x.close(Due.WORKS, 0, 1, 0, 5, 0));
        due.refuses("the 101st, unknown", Due.UNKNOWN, () -> x.close(Due.WORKS, 60, 1, 0, 5, 0));
        due.refuses("the 101st, an unknown incident", Due.UNKNOWN, () -> x.close(Due.SCENE, 0, 1, 0, 5, 20));
        due.refuses("the 101st, side out of range", Due.RANGE, () -> x.close(Due.WORKS, 0, 4, 0, 5, 0));
        due.refuses("the 101st, x out of range", Due.RANGE, () -> x.close(Due.SLOW, 0, 1, 0, 5, 100));
        x.lift(3, 1);
        due.refuses("the 101st, when one is lifted", Due.NO_ROOM, () -> x.close(Due.WORKS, 0, 1, 0, 5, 0));
    }
}
