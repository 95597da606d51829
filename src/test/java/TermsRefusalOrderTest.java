import java.util.function.Consumer;
import java.util.function.Supplier;

/** Calls with several faults at once: the document's first one is told. */
public final class TermsRefusalOrderTest {
    private static final int[] SIDES = {0, 4};
    private static final int[] FROMS = {-1, 100_000};

    private final Due due = new Due();

    public static void main(String[] args) {
        TermsRefusalOrderTest test = new TermsRefusalOrderTest();
        test.due.by("Refusals, in this order");
        test.closeUnknownFirst(Rows::busy);
        test.closeUnknownFirst(Rows::full);
        test.closeRangeBeforeNoRoom();
        test.lift();
        test.step();
        test.places();
        test.due.end();
    }

    private void unknown(String call, Supplier<ClosureRows> made, Consumer<ClosureRows> body) {
        due.refuses(call, Due.UNKNOWN, made, body);
    }

    private void range(String call, Supplier<ClosureRows> made, Consumer<ClosureRows> body) {
        due.refuses(call, Due.RANGE, made, body);
    }

    /** Of full rows, there is no room either. */
    private void closeUnknownFirst(Supplier<ClosureRows> made) {
        unknown("kind and piece", made, x -> x.close(6, 60, 1, 0, 1, 0));
        unknown("kind and x", made, x -> x.close(6, 0, 1, 0, 1, -1));
        unknown("kind and to", made, x -> x.close(-1, 0, 1, 5, 5, 0));
        unknown("piece and x of a crossing", made, x -> x.close(Due.CROSSING, 60, 1, 0, 1, 0));
        unknown("piece and x of slow", made, x -> x.close(Due.SLOW, -1, 1, 0, 1, 100));
        unknown("piece and to", made, x -> x.close(Due.WORKS, 60, 1, 5, 5, 0));
        unknown("piece and incident", made, x -> x.close(Due.SCENE, 60, 1, 0, 1, 20));
        unknown("all at once", made, x -> x.close(6, 60, 4, -1, -2, -1));
        unknown("nothing else", made, x -> x.close(Due.SCENE, 0, 1, 0, 1, -1));
        for (int side : SIDES) {
            unknown("kind and side", made, x -> x.close(6, 0, side, 0, 1, 0));
            unknown("piece and side", made, x -> x.close(Due.WORKS, 60, side, 0, 1, 0));
            unknown("incident and side", made, x -> x.close(Due.SCENE, 0, side, 0, 1, 20));
        }
        for (int from : FROMS) {
            unknown("kind and from", made, x -> x.close(-1, 0, 1, from, 99_999, 0));
            unknown("piece and from", made, x -> x.close(Due.FLOOD, -1, 1, from, 99_999, 0));
            unknown("incident and from", made, x -> x.close(Due.SCENE, 0, 1, from, 99_999, -1));
        }
    }

    private void closeRangeBeforeNoRoom() {
        range("to", Rows::full, x -> x.close(Due.WORKS, 0, 1, 5, 5, 0));
        range("a late to", Rows::full, x -> x.close(Due.EVENT, 0, 1, 5, 100_000, 0));
        range("timetable", Rows::full, x -> x.close(Due.CROSSING, 0, 1, 0, 1, 102));
        range("percent 0", Rows::full, x -> x.close(Due.SLOW, 0, 1, 0, 1, 0));
        range("percent 100", Rows::full, x -> x.close(Due.SLOW, 0, 1, 0, 1, 100));
        for (int side : SIDES) {
            range("side", Rows::full, x -> x.close(Due.SCENE, 0, side, 0, 1, 0));
        }
        for (int from : FROMS) {
            range("from", Rows::full, x -> x.close(Due.FLOOD, 0, 1, from, 99_999, 0));
        }
    }

    private void lift() {
        for (int by : new int[] {-1, 1_000}) {
            unknown("closure -1 and by", Rows::busy, x -> x.lift(-1, by));
            unknown("the closure behind the last and by", Rows::busy, x -> x.lift(Rows.BUSY_CLOSURES, by));
            unknown("closure 100 and by", Rows::full, x -> x.lift(100, by));
            range("by, works lifted", Rows::busy, x -> x.lift(Rows.WORKS_LIFTED, by));
            range("by, a flood lifted", Rows::busy, x -> x.lift(Rows.FLOOD_LIFTED, by));
            range("by, a crossing", Rows::busy, x -> x.lift(Rows.CROSSING_ON, by));
            range("by, works that ended", Rows::busy, x -> x.lift(Rows.WORKS_ENDED, by));
        }
    }

    private void step() {
        for (int side : new int[] {0, 3}) {
            unknown("unit and side", Rows::full, x -> x.step(10, 0, side));
            unknown("piece and side", Rows::busy, x -> x.step(0, 60, side));
            unknown("piece and side, no room", Rows::full, x -> x.step(0, -2, side));
            range("side, no room", Rows::full, x -> x.step(0, 59, side));
        }
        unknown("unit and piece", Rows::busy, x -> x.step(-1, 60, 1));
        unknown("unit, the route emptied", Rows::busy, x -> x.step(10, -1, 0));
        unknown("piece, no room", Rows::full, x -> x.step(9, 60, 1));
    }

    private void places() {
        place("closed", (x, piece, side, t) -> x.closed(piece, side, t));
        place("opens", (x, piece, side, t) -> x.opens(piece, side, t));
        place("speed", (x, piece, side, t) -> x.speed(piece, side, t));
        place("minutes", (x, piece, side, t) -> x.minutes(piece, side, t, t));
        place("minutes, too many", (x, piece, side, t) -> x.minutes(piece, side, 0, 2_001));
        place("minutes, to below from", (x, piece, side, t) -> x.minutes(piece, side, 1, 0));
        place("reason", (x, piece, side, t) -> x.reason(piece, side, t, 0));
        place("reason, i below 0", (x, piece, side, t) -> x.reason(piece, side, t, -1));
    }

    private void place(String name, Due.SideCall call) {
        for (int piece : new int[] {-1, 60}) {
            unknown(name + ", piece and side", Rows::busy, x -> call.make(x, piece, 0, 0));
            unknown(name + ", piece and the next side", Rows::busy, x -> call.make(x, piece, 3, 0));
            unknown(name + ", piece and minute", Rows::busy, x -> call.make(x, piece, 1, -1));
            unknown(name + ", piece and a late minute", Rows::busy, x -> call.make(x, piece, 2, 100_000));
        }
    }
}
