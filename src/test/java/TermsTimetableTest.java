/** Crossings: the first LENGTH minutes of each PERIOD, counted from their beginning on. */
public final class TermsTimetableTest {
    public static void main(String[] args) {
        Due due = new Due();
        everyTimetable(due);
        leastAndLargest(due);
        fromItsBeginningOn(due);
        upToItsEnd(due);
        asTheClockMeetsIt(due);
        due.end();
    }

    private static void everyTimetable(Due due) {
        due.by("the first LENGTH minutes of each PERIOD, counted from its beginning on");
        for (int period = 1; period <= 99; period++) {
            for (int length = 0; length <= period; length++) {
                ClosureRows x = new ClosureRows();
                x.close(Due.CROSSING, 0, 3, 3, 3 + 20 * period, 100 * period + length);
                threePeriods(due, x, period, length);
                due.is("minutes of " + period + ", " + length, x.minutes(0, 1, 0, 2_000), 20 * length);
            }
        }
    }

    private static void threePeriods(Due due, ClosureRows x, int period, int length) {
        due.is("before it begins", x.closed(0, 1, 2), false);
        int start = 3;
        for (int n = 0; n < 3; n++) {
            for (int minute = 0; minute < period; minute++) {
                due.is("minute " + minute + " of " + period + ", " + length,
                        x.closed(0, 1 + n % 2, start + minute), minute < length);
            }
            start += period;
        }
    }

    private static void leastAndLargest(Due due) {
        due.by("the period (1 .. 99) and the length (0 .. the period)");
        int[][] closedOf = {{100, 0}, {101, 1_000}, {200, 0}, {201, 500}, {202, 1_000}, {9_900, 0}, {9_901, 11},
            {9_998, 990}, {9_999, 1_000}};
        for (int[] row : closedOf) {
            ClosureRows x = new ClosureRows();
            x.step(0, 0, 1);
            x.close(Due.CROSSING, 0, 1, 0, 1_000, row[0]);
            due.is("minutes of timetable " + row[0], x.minutes(0, 1, 0, 2_000), row[1]);
            due.is("opens of timetable " + row[0], x.opens(0, 1, 0), row[1] == 1_000 ? 1_000 : row[0] % 100);
            due.is("blocked of timetable " + row[0], x.blocked(0), row[1] == 0 ? 0 : 1);
        }
    }

    private static void fromItsBeginningOn(Due due) {
        due.by("counted from its beginning on");
        for (int from : new int[] {0, 1, 49, 50, 51, 98, 99, 100}) {
            ClosureRows x = new ClosureRows();
            x.tick(50);
            x.close(Due.CROSSING, 0, 1, from, 99_999, 1_003);
            for (int t = 0; t < 200; t++) {
                due.is("from " + from + " at " + t, x.closed(0, 1, t), t >= from && (t - from) % 10 < 3);
            }
        }
    }

    private static void upToItsEnd(Due due) {
        due.by("from a minute on up to an end, as a timetable tells");
        for (int to = 31; to <= 41; to++) {
            ClosureRows x = new ClosureRows();
            x.close(Due.CROSSING, 0, 1, 20, to, 1_003);
            for (int t = 30; t < 55; t++) {
                due.is("to " + to + " at " + t, x.closed(0, 1, t), t < to && t % 10 < 3);
            }
            due.is("opens, to " + to, x.opens(0, 1, 30), Math.min(33, to));
        }
    }

    private static void asTheClockMeetsIt(Due due) {
        due.by("for each minute that tick() goes on to");
        for (int length = 0; length <= 4; length++) {
            ClosureRows x = new ClosureRows();
            x.step(5, 0, 1);
            x.close(Due.CROSSING, 0, 1, 10, 21, 400 + length);
            int told = 0;
            boolean was = false;
            for (int t = 1; t <= 30; t++) {
                boolean is = t >= 10 && t < 21 && (t - 10) % 4 < length;
                due.is("length " + length + ", tick to " + t, x.tick(1), is == was ? 0 : 1);
                due.is("length " + length + ", blocked at " + t, x.blocked(5), is ? 1 : 0);
                if (is != was) {
                    due.notice(x, told, 5, 0, 1, is ? 1 : 0, t);
                    told++;
                }
                was = is;
            }
            due.notices(x, told);
        }
    }
}
