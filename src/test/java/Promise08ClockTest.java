public final class Promise08ClockTest {
    public static void main(String[] args) {
        Due due = new Due();
        ClosureRows x = new ClosureRows();
        due.is("clock()", x.clock(), 0);
        x.tick(1);
        due.is("clock(), a minute on", x.clock(), 1);
        x.tick(2000);
        due.is("clock(), 2,000 on", x.clock(), 2001);
        due.refuses("tick(0)", Due.RANGE, () -> x.tick(0));
        due.refuses("tick(2001)", Due.RANGE, () -> x.tick(2001));
        due.is("clock(), after refusals", x.clock(), 2001);
        x.close(Due.WORKS, 0, 1, 0, 5, 0);
        x.step(0, 0, 1);
        x.incident(0, true);
        x.closed(0, 1, 9);
        x.opens(0, 1, 9);
        due.is("clock(), after other calls", x.clock(), 2001);
        due.end();
    }
}
