public final class Promise05IncidentTest {
    public static void main(String[] args) {
        Due due = new Due();
        scenesFollow(due);
        openOrNotAgain(due);
        unitsAreTold(due);
        unknown(due);
        due.end();
    }

    private static void scenesFollow(Due due) {
        due.by("An incident is open, or not.");
        ClosureRows x = new ClosureRows();
        x.close(Due.SCENE, 3, 1, 5, 0, 0);
        x.close(Due.SCENE, 4, 1, 5, 0, 19);
        x.incident(19, true);
        due.is("not its incident", x.closed(3, 1, 5), false);
        due.is("before it begins", x.closed(4, 1, 4), false);
        due.is("from its minute on", x.closed(4, 1, 5), true);
        due.is("as it is now, to come", x.closed(4, 1, 99_999), true);
        x.tick(50);
        x.incident(19, false);
        due.is("not open: never, a minute gone", x.closed(4, 1, 20), false);
        due.is("not open: never, a minute to come", x.closed(4, 1, 200), false);
        x.incident(19, true);
        due.is("open once more, a minute gone", x.closed(4, 1, 20), true);
    }

    private static void openOrNotAgain(Due due) {
        due.by("An incident is open, or not.");
        for (int i : new int[] {0, 19}) {
            ClosureRows x = new ClosureRows();
            x.step(0, 4, 1);
            x.close(Due.SCENE, 4, 1, 0, 0, i);
            x.incident(i, false);
            due.is("not open, again", x.closed(4, 1, 0), false);
            x.incident(i, true);
            x.incident(i, true);
            due.is("open, again", x.closed(4, 1, 0), true);
            due.notices(x, 1);
        }
    }

    private static void unitsAreTold(Due due) {
        due.by("behind each call that changes closures, incidents or answers (at the clock's minute)");
        ClosureRows x = new ClosureRows();
        x.step(2, 4, 1);
        x.close(Due.SCENE, 4, 1, 5, 0, 7);
        x.incident(7, true);
        due.notices(x, 0);
        due.is("tick(10)", x.tick(10), 1);
        x.incident(7, false);
        x.incident(7, false);
        x.incident(6, true);
        x.incident(7, true);
        x.incident(7, true);
        due.notices(x, 3);
        due.notice(x, 0, 2, 4, 1, 1, 5);
        due.notice(x, 1, 2, 4, 1, 0, 10);
        due.notice(x, 2, 2, 4, 1, 1, 10);
    }

    private static void unknown(Due due) {
        due.by("Unknown: there is none such.");
        for (int i : Due.beside(0, 19)) {
            due.refuses("incident(" + i + ", true)", Due.UNKNOWN, Rows::busy, x -> x.incident(i, true));
            due.refuses("incident(" + i + ", false)", Due.UNKNOWN, Rows::busy, x -> x.incident(i, false));
        }
    }
}
