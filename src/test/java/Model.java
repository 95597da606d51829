import java.util.ArrayList;
import java.util.Comparator;
import java.util.List;

/** The document once more, told minute by minute and without any care for speed: ModelTest compares with it. */
final class Model {
    private static final class Closure {
        int kind;
        int piece;
        int side;
        int from;
        int to;
        int x;
        Boolean allowed;
        Integer lifted;
        Integer word;
    }

    private static final class Step {
        int piece;
        int side;
    }

    private final List<Closure> closures = new ArrayList<>();
    private final List<List<Step>> routes = new ArrayList<>();
    private final List<int[]> notices = new ArrayList<>();
    private final boolean[] open = new boolean[20];
    private final boolean[][] before = new boolean[60][3];
    private int clock = 0;

    Model() {
        for (int unit = 0; unit < 10; unit++) {
            routes.add(new ArrayList<>());
        }
    }

    private static void unknownUnless(boolean good) {
        if (!good) {
            throw new IllegalArgumentException();
        }
    }

    private static void rangeUnless(boolean good) {
        if (!good) {
            throw new IndexOutOfBoundsException();
        }
    }

    private static void stateUnless(boolean good) {
        if (!good) {
            throw new IllegalStateException();
        }
    }

    private static void roomUnless(boolean good) {
        if (!good) {
            throw new UnsupportedOperationException();
        }
    }

    private static boolean in(int number, int least, int most) {
        return least <= number && number <= most;
    }

    private static boolean hasEnd(int kind) {
        return kind == Due.WORKS || kind == Due.EVENT || kind == Due.CROSSING || kind == Due.SLOW;
    }

    private boolean holds(Closure c, int t) {
        boolean holds = t >= c.from;
        holds &= !hasEnd(c.kind) || t < c.to;
        holds &= c.lifted == null || t < c.lifted;
        holds &= c.kind != Due.EVENT || Boolean.TRUE.equals(c.allowed);
        holds &= c.kind != Due.SCENE || open[c.x];
        if (holds && c.kind == Due.CROSSING) {
            int minute = c.from;
            while (minute + c.x / 100 <= t) {
                minute += c.x / 100;
            }
            holds = t < minute + c.x % 100;
        }
        return holds;
    }

    private List<Closure> holding(int piece, int side, int t) {
        List<Closure> found = new ArrayList<>();
        for (Closure c : closures) {
            if (c.piece == piece && (c.side == 3 || c.side == side) && holds(c, t)) {
                found.add(c);
            }
        }
        return found;
    }

    private boolean isClosed(int piece, int side, int t) {
        return holding(piece, side, t).stream().anyMatch(c -> c.kind != Due.SLOW);
    }

    private void tell() {
        for (int piece = 0; piece < 60; piece++) {
            for (int side = 1; side <= 2; side++) {
                boolean is = isClosed(piece, side, clock);
                if (is != before[piece][side]) {
                    before[piece][side] = is;
                    tellUnits(piece, side, is);
                }
            }
        }
    }

    private void tellUnits(int piece, int side, boolean is) {
        for (int unit = 0; unit < 10; unit++) {
            if (routes.get(unit).stream().anyMatch(s -> s.piece == piece && s.side == side)) {
                notices.add(new int[] {unit, piece, side, is ? 1 : 0, clock});
            }
        }
    }

    int close(int kind, int piece, int side, int from, int to, int x) {
        unknownUnless(in(kind, 0, 5) && in(piece, 0, 59));
        unknownUnless(kind != Due.SCENE || in(x, 0, 19));
        rangeUnless(in(side, 1, 3) && in(from, 0, 99_999));
        rangeUnless(!hasEnd(kind) || in(to, 0, 99_999) && to > from);
        rangeUnless(kind != Due.CROSSING || x >= 0 && in(x / 100, 1, 99) && in(x % 100, 0, x / 100));
        rangeUnless(kind != Due.SLOW || in(x, 1, 99));
        roomUnless(closures.size() < 100);
        Closure c = new Closure();
        c.kind = kind;
        c.piece = piece;
        c.side = side;
        c.from = from;
        c.to = to;
        c.x = x;
        closures.add(c);
        tell();
        return closures.size() - 1;
    }

    void answer(int closure, boolean yes) {
        unknownUnless(in(closure, 0, closures.size() - 1));
        Closure c = closures.get(closure);
        stateUnless(c.kind == Due.EVENT && c.allowed == null);
        c.allowed = yes;
        tell();
    }

    boolean lift(int closure, int by) {
        unknownUnless(in(closure, 0, closures.size() - 1));
        rangeUnless(in(by, 0, 999));
        Closure c = closures.get(closure);
        stateUnless(c.lifted == null && c.kind != Due.CROSSING);
        stateUnless(!hasEnd(c.kind) || c.to > clock);
        if (c.kind == Due.FLOOD && c.word == null) {
            c.word = by;
            return false;
        }
        if (c.kind == Due.FLOOD && c.word == by) {
            return false;
        }
        c.lifted = clock;
        tell();
        return true;
    }

    void incident(int i, boolean isOpen) {
        unknownUnless(in(i, 0, 19));
        open[i] = isOpen;
        tell();
    }

    int step(int unit, int piece, int side) {
        unknownUnless(in(unit, 0, 9) && in(piece, -1, 59));
        List<Step> route = routes.get(unit);
        if (piece == -1) {
            route.clear();
            return 0;
        }
        rangeUnless(in(side, 1, 2));
        roomUnless(route.size() < 12);
        Step s = new Step();
        s.piece = piece;
        s.side = side;
        route.add(s);
        return route.size();
    }

    int tick(int minutes) {
        rangeUnless(in(minutes, 1, 2000) && clock + minutes <= 99_999);
        int had = notices.size();
        for (int n = 0; n < minutes; n++) {
            clock++;
            tell();
        }
        return notices.size() - had;
    }

    int clock() {
        return clock;
    }

    private static void needSide(int piece, int side) {
        unknownUnless(in(piece, 0, 59));
        rangeUnless(in(side, 1, 2));
    }

    boolean closed(int piece, int side, int t) {
        needSide(piece, side);
        rangeUnless(in(t, 0, 99_999));
        return isClosed(piece, side, t);
    }

    int minutes(int piece, int side, int from, int to) {
        needSide(piece, side);
        rangeUnless(in(from, 0, 99_999) && in(to, 0, 99_999) && to >= from && to - from <= 2000);
        int sum = 0;
        for (int t = from; t < to; t++) {
            sum += isClosed(piece, side, t) ? 1 : 0;
        }
        return sum;
    }

    int opens(int piece, int side, int t) {
        needSide(piece, side);
        rangeUnless(in(t, 0, 99_999));
        for (int minute = t; minute < t + 2000 && minute <= 99_999; minute++) {
            if (!isClosed(piece, side, minute)) {
                return minute;
            }
        }
        return -1;
    }

    int reason(int piece, int side, int t, int i) {
        needSide(piece, side);
        rangeUnless(in(t, 0, 99_999) && i >= 0);
        List<Closure> found = holding(piece, side, t);
        // The sort is stable, so closures with one end stay by numbers.
        found.sort(Comparator.comparingInt(Model::endOf));
        return i < found.size() ? closures.indexOf(found.get(i)) : -1;
    }

    private static int endOf(Closure c) {
        if (c.lifted != null) {
            return c.lifted;
        }
        return hasEnd(c.kind) ? c.to : Integer.MAX_VALUE;
    }

    int speed(int piece, int side, int t) {
        needSide(piece, side);
        rangeUnless(in(t, 0, 99_999));
        return holding(piece, side, t).stream().filter(c -> c.kind == Due.SLOW).mapToInt(c -> c.x).min().orElse(100);
    }

    int notice(int i, int what) {
        unknownUnless(in(i, 0, notices.size() - 1) && i >= notices.size() - 100 && in(what, 0, 4));
        return notices.get(i)[what];
    }

    int noticeCount() {
        return notices.size();
    }

    int closureCount() {
        return closures.size();
    }

    int blocked(int unit) {
        unknownUnless(in(unit, 0, 9));
        return (int) routes.get(unit).stream().filter(s -> isClosed(s.piece, s.side, clock)).count();
    }
}
