/** Each limit of the document and the one beyond it, full nets, and odd numbers in every call. */
public final class LimitsTest {
    private static final int NONE = TimedNet.NONE;
    private static final int[] ODD = {
        Integer.MIN_VALUE, -5001, -2, -1, 0, 1, 2, 23, 24, 60, 100, 400, 1199, 1200, 2400, 5000, 5001,
        Integer.MAX_VALUE
    };
    private static int wrong = 0;

    private static void due(String what, long got, long want) {
        if (got != want) {
            wrong++;
            System.out.println(what + " answered " + got + ", due is " + want);
        }
    }

    private static void refused(String what, TimedNet x, boolean got, int status) {
        due(what, got ? 1 : 0, 0);
        due(what + ", status", x.status(), status);
    }

    private static void refused(String what, TimedNet x, int got, int status) {
        due(what, got, NONE);
        due(what + ", status", x.status(), status);
    }

    public static void main(String[] args) {
        mostLines();
        mostRuns();
        mostClosings();
        mostChanges();
        longestWay();
        firstAndLastTick();
        fullNet();
        oddNumbers(new TimedNet());
        oddNumbers(madeFull());
        roomOfCalls();
        System.out.println(wrong == 0 ? "all limits hold" : wrong + " answers are not as due");
        if (wrong != 0) {
            System.exit(1);
        }
    }

    private static TimedNet netOf(int nodes) {
        TimedNet x = new TimedNet();
        for (int i = 0; i < nodes; i++) {
            x.node(0, NONE);
        }
        return x;
    }

    private static void mostLines() {
        TimedNet x = netOf(2);
        for (int i = 0; i < 100; i++) {
            due("line", x.line(0, 1, 0, i, 1, 0, 0), i);
        }
        refused("line 101", x, x.line(0, 1, 0, 0, 1, 0, 0), 3);
        x.strike(5);
        refused("struck lines count", x, x.line(0, 1, 0, 0, 1, 0, 0), 3);
        refused("2 ahead of 3", x, x.line(0, 1, 0, 0, 0, 0, 0), 2);
        refused("1 ahead of 3", x, x.line(0, 0, 0, 0, 0, 0, 0), 1);
        x.undo();
        x.undo();
        due("undone lines don't", x.line(0, 1, 0, 0, 1, 0, 0), 99);
    }

    private static void mostRuns() {
        TimedNet x = netOf(2);
        for (int i = 0; i < 19; i++) {
            x.line(0, 1, 1 + i % 2, 0, 1, 60, 1);
        }
        due("59 more", x.line(0, 1, 1, 0, 1, 59, 1), 19);
        refused("two more", x, x.line(0, 1, 1, 0, 1, 2, 1), 3);
        due("one more", x.line(0, 1, 0, 0, 1, 0, 0), 20);
        refused("none more", x, x.line(0, 1, 0, 0, 1, 0, 0), 3);
        due("all stand", x.stand(21), 1200);
        x.strike(0);
        refused("struck or not", x, x.line(0, 1, 0, 0, 1, 0, 0), 3);
        due("less stand", x.stand(22), 1140);
        x.undo();
        x.undo();
        x.undo();
        due("undone ones are free", x.line(0, 1, 2, 0, 1, 60, 0), 19);
        due("all stand again", x.stand(20), 1200);
    }

    private static void mostClosings() {
        TimedNet x = netOf(3);
        for (int i = 0; i < 60; i++) {
            due("close", x.close(i % 3, i, i + 1) ? 1 : 0, 1);
        }
        refused("close 61", x, x.close(0, 0, 1), 3);
        refused("2 ahead of 3", x, x.close(0, 1, 0), 2);
        refused("1 ahead of 3", x, x.close(3, 0, 1), 1);
        due("no change of that", x.changes(), 60);
        x.undo();
        due("one is free", x.close(1, 70, 70) ? 1 : 0, 1);
        x.line(0, 1, 0, 60, 10, 0, 0);
        due("the latest counts", x.stand(61), 0);
    }

    private static void mostChanges() {
        TimedNet x = netOf(2);
        x.line(0, 1, 0, 0, 1, 0, 0);
        x.line(0, 1, 0, 0, 2, 0, 0);
        x.strike(1);
        for (int i = 3; i < 400; i++) {
            due("delay", x.delay(0, 0, i) ? 1 : 0, 1);
        }
        due("changes", x.changes(), 400);
        refused("delay 401", x, x.delay(0, 0, 1), 3);
        refused("delay, 3 ahead of 4", x, x.delay(1, 0, 1), 3);
        refused("delay, 2 ahead of 3", x, x.delay(0, 0, 501), 2);
        refused("strike 401", x, x.strike(0), 3);
        refused("strike, 3 ahead of 4", x, x.strike(1), 3);
        refused("strike, 1 ahead of 3", x, x.strike(2), 1);
        refused("close 401", x, x.close(0, 0, 1), 3);
        refused("line 401", x, x.line(0, 1, 0, 0, 1, 0, 0), 3);
        due("nodes and waits are none", x.waits(0, 1, 1) ? 1 : 0, 1);
        due("a node more", x.node(0, NONE), 2);
        due("as of 400", x.first(0, 1, 0, 400), 400);
        due("as of 399", x.first(0, 1, 0, 399), 399);
        due("as of 2", x.first(0, 1, 0, 2), 1);
        refused("as of 401", x, x.first(0, 1, 0, 401), 6);
        x.undo();
        due("as of 399 still", x.first(0, 1, 0, 399), 399);
        refused("no 400", x, x.first(0, 1, 0, 400), 6);
        due("strike is 400", x.strike(0) ? 1 : 0, 1);
        refused("struck", x, x.first(0, 1, 0, 400), 5);
    }

    // Each run of all 1,200 is on the way: it goes to and fro at each tick, as nobody may wait.
    private static void longestWay() {
        TimedNet y = netOf(4);
        y.line(3, 0, 0, 0, 1, 0, 0);
        for (int i = 0; i < 10; i++) {
            y.line(0, 1, 1, 120 * i + 1, 1, i == 9 ? 59 : 60, 2);
            y.line(1, 0, 1, 120 * i + 2, 1, i == 9 ? 59 : 60, 2);
        }
        y.line(0, 2, 0, 1199, 1, 0, 0);
        y.waits(0, 0, 0);
        y.waits(1, 0, 0);
        due("all runs", y.stand(22), 1200);
        due("all on the way", y.way(3, 2, 0, 22), 1200);
        due("its first line", y.out(0), 0);
        due("its last line", y.out(2398), 21);
        due("its last but one", y.out(2397), 58);
        due("behind its end", y.out(2400), NONE);
        due("fewest", y.fewest(3, 2, 0, 1200, 22), 1200);
        due("last", y.last(3, 2, 5000, 22), 0);
        due("pairs", y.pairs(3, 2, 22), 1);
        due("weakest", y.weakest(3, 2, 0), 0);
    }

    private static void firstAndLastTick() {
        TimedNet x = netOf(3);
        x.line(2, 1, 0, 0, 1, 0, 0);
        x.line(2, 0, 0, 4999, 1, 0, 0);
        due("both are reached", x.reached(2, 0, 5000, 2), 3);
        due("at the first tick", x.first(2, 1, 0, 2), 1);
        due("at the last tick", x.first(2, 0, 0, 2), 5000);
    }

    private static TimedNet madeFull() {
        TimedNet x = new TimedNet();
        for (int i = 0; i < 24; i++) {
            x.node(i % 3, i % 4 == 0 ? NONE : 40 + i);
        }
        for (int i = 0; i < 100; i++) {
            x.line(i % 24, (i + 1 + i / 24) % 24, 1 + i % 2, 40 * (i % 24) + 7 * (i / 24), 5 + i % 9, 12, 9);
        }
        for (int i = 0; i < 60; i++) {
            x.close(i % 24, 1500 + i, 1500 + 2 * i);
        }
        for (int i = 0; i < 230; i++) {
            x.delay(i % 100, i % 12, i % 40);
        }
        for (int i = 0; i < 10; i++) {
            x.strike(9 * i + 1);
        }
        return x;
    }

    private static void fullNet() {
        TimedNet x = madeFull();
        due("full", x.changes(), 400);
        for (int i = 0; i < 80; i++) {
            int a = i % 24;
            int b = (a + 1 + i % 23) % 24;
            int first = x.first(a, b, 0, 400);
            int line = x.weakest(a, b, 0);
            due("a way or none", first == NONE ? 1 : 0, line == NONE ? 1 : 0);
            if (first != NONE) {
                due("the first pair comes first", x.pair(a, b, 400, 0, true), first);
                due("its leaving", x.pair(a, b, 400, 0, false), x.last(a, b, first, 400));
                int without = x.without(a, b, 0, line);
                due("not sooner without a line", without == NONE || without >= first ? 1 : 0, 1);
            }
        }
    }

    private static void oddNumbers(TimedNet x) {
        for (int a : ODD) {
            x.strike(a);
            x.out(a);
            x.stand(a);
            for (int b : ODD) {
                x.told(a, b);
                x.node(a, b);
                for (int c : ODD) {
                    x.waits(a, b, c);
                    x.close(a, b, c);
                    x.delay(a, b, c);
                    x.weakest(a, b, c);
                    x.pairs(a, b, c);
                    oddNumbers(x, a, b, c);
                }
            }
            x.undo();
        }
    }

    private static void oddNumbers(TimedNet x, int a, int b, int c) {
        for (int d : ODD) {
            x.run(a, b, c, d);
            x.first(a, b, c, d);
            x.last(a, b, c, d);
            x.way(a, b, c, d);
            x.reached(a, b, c, d);
            x.without(a, b, c, d);
            x.pair(a, b, c, d, d > 1);
            x.quickest(a, b, c, d, 1);
            x.fewest(a, b, d, c, d);
            x.isReached(a, b, c, d, d);
            x.line(a, b, c, d, 1, 2, d);
            x.line(0, 1, a, b, c, d, 500);
        }
    }

    // All rows are made with the object: calls make nothing, so that any run of calls has room.
    private static void roomOfCalls() {
        TimedNet x = madeFull();
        com.sun.management.ThreadMXBean threads =
                (com.sun.management.ThreadMXBean) java.lang.management.ManagementFactory.getThreadMXBean();
        long me = Thread.currentThread().getId();
        threads.getThreadAllocatedBytes(me);
        long before = threads.getThreadAllocatedBytes(me);
        for (int i = 0; i < 512; i++) {
            x.weakest(i % 24, (i + 5) % 24, 0);
            x.pair(i % 24, (i + 7) % 24, i % 400, 0, true);
            x.undo();
        }
        long bytes = threads.getThreadAllocatedBytes(me) - before;
        due("bytes that calls made, above a few", bytes > 4096 ? bytes : 0, 0);
    }
}
