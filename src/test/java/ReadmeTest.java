/** The example of README.md, call by call. */
public final class ReadmeTest {
    public static void main(String[] args) {
        Due due = new Due();
        due.by("README.md, Use");
        ClosureRows rows = new ClosureRows();
        due.is("rows.step(0, 5, 1)", rows.step(0, 5, 1), 1);
        int works = rows.close(0, 5, 3, 10, 20, 0);
        due.is("works", works, 0);
        due.is("rows.tick(12)", rows.tick(12), 1);
        due.is("rows.notice(0, 4)", rows.notice(0, 4), 10);
        due.is("rows.blocked(0)", rows.blocked(0), 1);
        due.is("rows.opens(5, 1, 12)", rows.opens(5, 1, 12), 20);
        due.is("rows.lift(works, 7)", rows.lift(works, 7), true);
        due.is("rows.opens(5, 1, 12), lifted", rows.opens(5, 1, 12), 12);
        due.is("rows.minutes(5, 1, 0, 100)", rows.minutes(5, 1, 0, 100), 2);
        due.is("rows.notice(1, 3)", rows.notice(1, 3), 0);
        due.end();
    }
}
