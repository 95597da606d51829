/**
 * Closures of streets: what is closed when, for how long and why, and what the units are told of it.
 *
 * <p>Inside, a side of a piece is one number, its PLACE: twice the piece, and one more for side 2.
 * Places in their order are thus pieces in theirs, then sides.
 */
public final class ClosureRows {
    private static final int WORKS = 0;
    private static final int EVENT = 1;
    private static final int SCENE = 2;
    private static final int FLOOD = 3;
    private static final int CROSSING = 4;
    private static final int SLOW = 5;

    private static final int PIECES = 60;
    private static final int PLACES = 2 * PIECES;
    private static final int BOTH_SIDES = 3;
    private static final int INCIDENTS = 20;
    private static final int UNITS = 10;
    private static final int LAST_MINUTE = 99_999;
    private static final int LONGEST_SPAN = 2_000;
    private static final int LAST_PERSON = 999;
    private static final int FULL_SPEED = 100;
    private static final int EMPTY_ROUTE = -1;

    private static final int MOST_CLOSURES = 100;
    private static final int MOST_STEPS = 12;
    private static final int KEPT_NOTICES = 100;
    private static final int NOTICE_WIDTH = 5;

    /** Above every minute, so that what has no end comes behind all that has one. */
    private static final int NEVER = LAST_MINUTE + 1;
    private static final int NONE = -1;

    private static final int UNANSWERED = 0;
    private static final int ALLOWED = 1;
    private static final int REFUSED = 2;

    private final Closures closures;
    private final Routes routes;
    private final Notices notices;
    /** By places: what was closed when units were last told of changes. */
    private final boolean[] wasClosed;
    /** By places: what is closed now; a field only so that the row is made once. */
    private final boolean[] nowClosed;
    private int now;

    public ClosureRows() {
        closures = new Closures();
        routes = new Routes();
        notices = new Notices();
        wasClosed = new boolean[PLACES];
        nowClosed = new boolean[PLACES];
        now = 0;
    }

    public int close(int kind, int piece, int side, int from, int to, int x)
            throws IllegalArgumentException, IndexOutOfBoundsException, UnsupportedOperationException {
        needKind(kind, x);
        needPiece(piece);
        if (side < 1 || side > BOTH_SIDES) {
            throw new IndexOutOfBoundsException("side is 1, 2 or 3");
        }
        needMinute(from);
        needEnd(kind, from, to);
        needX(kind, x);
        if (closures.isFull()) {
            throw new UnsupportedOperationException("there are 100 closures");
        }
        int closure = closures.add(kind, piece, side, from, hasEnd(kind) ? to : NEVER, x);
        tellChanges();
        return closure;
    }

    public void answer(int closure, boolean yes) throws IllegalArgumentException, IllegalStateException {
        needClosure(closure);
        if (!closures.awaitsAnswer(closure)) {
            throw new IllegalStateException("no event, or answered before");
        }
        closures.setAnswer(closure, yes);
        tellChanges();
    }

    public boolean lift(int closure, int by)
            throws IllegalArgumentException, IndexOutOfBoundsException, IllegalStateException {
        needClosure(closure);
        if (by < 0 || by > LAST_PERSON) {
            throw new IndexOutOfBoundsException("by is 0 .. 999");
        }
        if (!closures.canBeLifted(closure, now)) {
            throw new IllegalStateException("lifted before, a crossing, or at its end");
        }
        if (!closures.giveWord(closure, by)) {
            return false;
        }
        closures.endAt(closure, now);
        tellChanges();
        return true;
    }

    public void incident(int i, boolean open) throws IllegalArgumentException {
        if (!isIncident(i)) {
            throw new IllegalArgumentException("no such incident");
        }
        closures.setIncident(i, open);
        tellChanges();
    }

    public int step(int unit, int piece, int side)
            throws IllegalArgumentException, IndexOutOfBoundsException, UnsupportedOperationException {
        needUnit(unit);
        if (piece == EMPTY_ROUTE) {
            routes.empty(unit);
            return 0;
        }
        int place = needPlace(piece, side);
        if (routes.isFull(unit)) {
            throw new UnsupportedOperationException("the route has 12 steps");
        }
        return routes.add(unit, place);
    }

    public int tick(int minutes) throws IndexOutOfBoundsException {
        if (minutes < 1 || minutes > LONGEST_SPAN || minutes > LAST_MINUTE - now) {
            throw new IndexOutOfBoundsException("1 .. 2,000 minutes, up to 99,999");
        }
        int before = notices.total();
        int change = closures.nextChange(now);
        for (int passed = 0; passed < minutes; passed++) {
            now++;
            if (now >= change) {
                tellChanges();
                change = closures.nextChange(now);
            }
        }
        return notices.total() - before;
    }

    public int clock() {
        return now;
    }

    public boolean closed(int piece, int side, int t) throws IllegalArgumentException, IndexOutOfBoundsException {
        int place = needPlace(piece, side);
        needMinute(t);
        return closures.isClosedAt(place, t);
    }

    public int minutes(int piece, int side, int from, int to)
            throws IllegalArgumentException, IndexOutOfBoundsException {
        int place = needPlace(piece, side);
        needMinute(from);
        needMinute(to);
        if (to < from || to - from > LONGEST_SPAN) {
            throw new IndexOutOfBoundsException("to is from .. from + 2,000");
        }
        int sum = 0;
        int change = from;
        boolean shut = false;
        for (int t = from; t < to; t++) {
            if (t >= change) {
                shut = closures.isClosedAt(place, t);
                change = closures.nextChangeOn(place, t);
            }
            if (shut) {
                sum++;
            }
        }
        return sum;
    }

    public int opens(int piece, int side, int t) throws IllegalArgumentException, IndexOutOfBoundsException {
        int place = needPlace(piece, side);
        needMinute(t);
        int last = Math.min(t + LONGEST_SPAN - 1, LAST_MINUTE);
        int change = t;
        for (int minute = t; minute <= last; minute++) {
            if (minute >= change) {
                if (!closures.isClosedAt(place, minute)) {
                    return minute;
                }
                change = closures.nextChangeOn(place, minute);
            }
        }
        return NONE;
    }

    public int reason(int piece, int side, int t, int i) throws IllegalArgumentException, IndexOutOfBoundsException {
        int place = needPlace(piece, side);
        needMinute(t);
        if (i < 0) {
            throw new IndexOutOfBoundsException("i is below 0");
        }
        return closures.holdingAt(place, t, i);
    }

    public int speed(int piece, int side, int t) throws IllegalArgumentException, IndexOutOfBoundsException {
        int place = needPlace(piece, side);
        needMinute(t);
        return closures.percentAt(place, t);
    }

    public int notice(int i, int what) throws IllegalArgumentException {
        if (!notices.isKept(i) || what < 0 || what >= NOTICE_WIDTH) {
            throw new IllegalArgumentException("no such notice is kept, or no such what");
        }
        return notices.get(i, what);
    }

    public int blocked(int unit) throws IllegalArgumentException {
        needUnit(unit);
        int sum = 0;
        for (int n = 0; n < routes.length(unit); n++) {
            if (closures.isClosedAt(routes.stepOf(unit, n), now)) {
                sum++;
            }
        }
        return sum;
    }

    private void tellChanges() {
        closures.markClosed(nowClosed, now);
        for (int place = 0; place < PLACES; place++) {
            if (wasClosed[place] != nowClosed[place]) {
                wasClosed[place] = nowClosed[place];
                tellUnits(place);
            }
        }
    }

    private void tellUnits(int place) {
        for (int unit = 0; unit < UNITS; unit++) {
            if (routes.leadsOver(unit, place)) {
                notices.add(unit, place, nowClosed[place], now);
            }
        }
    }

    private void needClosure(int closure) {
        if (!closures.has(closure)) {
            throw new IllegalArgumentException("no such closure");
        }
    }

    private static void needKind(int kind, int x) {
        if (kind < WORKS || kind > SLOW) {
            throw new IllegalArgumentException("no such kind");
        }
        if (kind == SCENE && !isIncident(x)) {
            throw new IllegalArgumentException("no such incident");
        }
    }

    private static void needPiece(int piece) {
        if (piece < 0 || piece >= PIECES) {
            throw new IllegalArgumentException("no such piece");
        }
    }

    private static int needPlace(int piece, int side) {
        needPiece(piece);
        if (side != 1 && side != 2) {
            throw new IndexOutOfBoundsException("side is 1 or 2");
        }
        return placeOf(piece, side);
    }

    private static void needUnit(int unit) {
        if (unit < 0 || unit >= UNITS) {
            throw new IllegalArgumentException("no such unit");
        }
    }

    private static void needMinute(int t) {
        if (t < 0 || t > LAST_MINUTE) {
            throw new IndexOutOfBoundsException("a minute is 0 .. 99,999");
        }
    }

    private static void needEnd(int kind, int from, int to) {
        if (hasEnd(kind) && (to <= from || to > LAST_MINUTE)) {
            throw new IndexOutOfBoundsException("to is above from, up to 99,999");
        }
    }

    private static void needX(int kind, int x) {
        if (kind == CROSSING && !isTimetable(x)) {
            throw new IndexOutOfBoundsException("period is 1 .. 99, length 0 .. the period");
        }
        if (kind == SLOW && (x < 1 || x >= FULL_SPEED)) {
            throw new IndexOutOfBoundsException("percent is 1 .. 99");
        }
    }

    private static boolean isIncident(int i) {
        return i >= 0 && i < INCIDENTS;
    }

    private static boolean hasEnd(int kind) {
        return kind != SCENE && kind != FLOOD;
    }

    private static boolean isTimetable(int x) {
        int period = periodOf(x);
        return period >= 1 && period <= 99 && lengthOf(x) <= period;
    }

    private static int periodOf(int timetable) {
        return timetable / 100;
    }

    private static int lengthOf(int timetable) {
        return timetable % 100;
    }

    private static int placeOf(int piece, int side) {
        return 2 * piece + side - 1;
    }

    private static int pieceOf(int place) {
        return place / 2;
    }

    private static int sideOf(int place) {
        return place % 2 + 1;
    }

    /** The closures by their numbers, and the incidents that scenes follow. */
    private static final class Closures {
        private final int[] kinds;
        private final int[] pieces;
        /** 1, 2 or 3: the bits tell which sides, so a side's own number picks its bit. */
        private final int[] sides;
        private final int[] starts;
        /** Lifting moves the end to the clock: so what was lifted has an end not above the clock. */
        private final int[] ends;
        private final int[] xs;
        private final int[] answers;
        /** Who spoke first for the lifting of a flood. */
        private final int[] words;
        private final boolean[] incidents;
        private int count;

        Closures() {
            kinds = new int[MOST_CLOSURES];
            pieces = new int[MOST_CLOSURES];
            sides = new int[MOST_CLOSURES];
            starts = new int[MOST_CLOSURES];
            ends = new int[MOST_CLOSURES];
            xs = new int[MOST_CLOSURES];
            answers = new int[MOST_CLOSURES];
            words = new int[MOST_CLOSURES];
            incidents = new boolean[INCIDENTS];
            count = 0;
        }

        boolean isFull() {
            return count >= MOST_CLOSURES;
        }

        boolean has(int closure) {
            return closure >= 0 && closure < count;
        }

        int add(int kind, int piece, int side, int start, int end, int x) {
            int closure = count;
            kinds[closure] = kind;
            pieces[closure] = piece;
            sides[closure] = side;
            starts[closure] = start;
            ends[closure] = end;
            xs[closure] = x;
            answers[closure] = UNANSWERED;
            words[closure] = NONE;
            count++;
            return closure;
        }

        boolean awaitsAnswer(int closure) {
            return kinds[closure] == EVENT && answers[closure] == UNANSWERED;
        }

        void setAnswer(int closure, boolean yes) {
            answers[closure] = yes ? ALLOWED : REFUSED;
        }

        void setIncident(int i, boolean open) {
            incidents[i] = open;
        }

        boolean canBeLifted(int closure, int t) {
            return kinds[closure] != CROSSING && ends[closure] > t;
        }

        /** Whether this word is enough to lift: of a flood, the first one's is kept and only another one's is. */
        boolean giveWord(int closure, int by) {
            if (kinds[closure] != FLOOD) {
                return true;
            }
            if (words[closure] == NONE) {
                words[closure] = by;
            }
            return words[closure] != by;
        }

        void endAt(int closure, int t) {
            ends[closure] = t;
        }

        boolean isClosedAt(int place, int t) {
            for (int c = 0; c < count; c++) {
                if (kinds[c] != SLOW && holdsOn(c, place, t)) {
                    return true;
                }
            }
            return false;
        }

        void markClosed(boolean[] row, int t) {
            for (int place = 0; place < PLACES; place++) {
                row[place] = false;
            }
            for (int c = 0; c < count; c++) {
                if (kinds[c] != SLOW && holds(c, t)) {
                    markSides(row, c);
                }
            }
        }

        private void markSides(boolean[] row, int c) {
            if ((sides[c] & 1) != 0) {
                row[placeOf(pieces[c], 1)] = true;
            }
            if ((sides[c] & 2) != 0) {
                row[placeOf(pieces[c], 2)] = true;
            }
        }

        int percentAt(int place, int t) {
            int least = FULL_SPEED;
            for (int c = 0; c < count; c++) {
                if (kinds[c] == SLOW && holdsOn(c, place, t)) {
                    least = Math.min(least, xs[c]);
                }
            }
            return least;
        }

        int holdingAt(int place, int t, int rank) {
            for (int c = 0; c < count; c++) {
                if (holdsOn(c, place, t) && rankOf(c, place, t) == rank) {
                    return c;
                }
            }
            return NONE;
        }

        private int rankOf(int closure, int place, int t) {
            int rank = 0;
            for (int c = 0; c < count; c++) {
                if (endsAheadOf(c, closure) && holdsOn(c, place, t)) {
                    rank++;
                }
            }
            return rank;
        }

        private boolean endsAheadOf(int one, int other) {
            return ends[one] < ends[other] || ends[one] == ends[other] && one < other;
        }

        /** No closure begins or ceases to hold between a minute and the one answered here. */
        int nextChange(int t) {
            int next = NEVER;
            for (int c = 0; c < count; c++) {
                next = Math.min(next, changeOf(c, t));
            }
            return next;
        }

        int nextChangeOn(int place, int t) {
            int next = NEVER;
            for (int c = 0; c < count; c++) {
                if (covers(c, place)) {
                    next = Math.min(next, changeOf(c, t));
                }
            }
            return next;
        }

        /** Always above t: the callers' walks from change to change go on. */
        private int changeOf(int c, int t) {
            if (t >= ends[c]) {
                return NEVER;
            }
            if (t < starts[c]) {
                return starts[c];
            }
            if (kinds[c] != CROSSING) {
                return ends[c];
            }
            int gone = minuteOfPeriod(c, t);
            int length = lengthOf(xs[c]);
            int turn = gone < length ? length : periodOf(xs[c]);
            return Math.min(t - gone + turn, ends[c]);
        }

        private boolean holdsOn(int c, int place, int t) {
            return covers(c, place) && holds(c, t);
        }

        private boolean covers(int c, int place) {
            return pieces[c] == pieceOf(place) && (sides[c] & sideOf(place)) != 0;
        }

        private boolean holds(int c, int t) {
            if (t < starts[c] || t >= ends[c]) {
                return false;
            }
            switch (kinds[c]) {
                case EVENT:
                    return answers[c] == ALLOWED;
                case SCENE:
                    return incidents[xs[c]];
                case CROSSING:
                    return minuteOfPeriod(c, t) < lengthOf(xs[c]);
                default:
                    return true;
            }
        }

        /** A crossing's period is at least 1: close() takes no other timetable. */
        private int minuteOfPeriod(int c, int t) {
            return (t - starts[c]) % periodOf(xs[c]);
        }
    }

    /** Each unit's route: its places in the order of its steps. */
    private static final class Routes {
        private final int[] places;
        private final int[] lengths;

        Routes() {
            places = new int[UNITS * MOST_STEPS];
            lengths = new int[UNITS];
        }

        void empty(int unit) {
            lengths[unit] = 0;
        }

        boolean isFull(int unit) {
            return lengths[unit] >= MOST_STEPS;
        }

        int add(int unit, int place) {
            places[unit * MOST_STEPS + lengths[unit]] = place;
            lengths[unit]++;
            return lengths[unit];
        }

        int length(int unit) {
            return lengths[unit];
        }

        int stepOf(int unit, int n) {
            return places[unit * MOST_STEPS + n];
        }

        boolean leadsOver(int unit, int place) {
            for (int n = 0; n < lengths[unit]; n++) {
                if (stepOf(unit, n) == place) {
                    return true;
                }
            }
            return false;
        }
    }

    /** The latest notices, five numbers each, in a row that begins again when it is full. */
    private static final class Notices {
        private final int[] row;
        private int total;

        Notices() {
            row = new int[KEPT_NOTICES * NOTICE_WIDTH];
            total = 0;
        }

        int total() {
            return total;
        }

        boolean isKept(int i) {
            return i >= 0 && i < total && i >= total - KEPT_NOTICES;
        }

        int get(int i, int what) {
            return row[firstOf(i) + what];
        }

        void add(int unit, int place, boolean closed, int minute) {
            int first = firstOf(total);
            row[first] = unit;
            row[first + 1] = pieceOf(place);
            row[first + 2] = sideOf(place);
            row[first + 3] = closed ? 1 : 0;
            row[first + 4] = minute;
            total++;
        }

        /** floorMod, since the sum of all notices may wrap round in calls beyond the document's 512. */
        private static int firstOf(int i) {
            return Math.floorMod(i, KEPT_NOTICES) * NOTICE_WIDTH;
        }
    }
}
