/** Ways in full nets, odd numbers in every call, and how little room calls need. */
public final class FullNetTest extends Checks {
    private static final int[] ODD = {
        Integer.MIN_VALUE, -5001, -2, -1, 0, 1, 2, 23, 24, 60, 100, 400, 1199, 1200, 2400, 5000, 5001,
        Integer.MAX_VALUE
    };

    public static void main(String[] args) {
        longestWay();
        mostPairs();
        firstAndLastTick();
        fullNet();
        oddNumbers(new TimedNet());
        oddNumbers(madeFull());
        roomOfCalls();
        end("full nets answer as due");
    }

    // Each run of all 1,200 is on the way: it goes to and fro at each tick, as nobody may wait.
    private static void longestWay() {
        TimedNet y = netOf(4);
        y.line(3, 0, 0, 0, 1, 0, 0);
        for (int i = 0; i < 10; i++) {
            y.line(0, 1, 1, 120 * i + 1, 1, i == 9 ? 59 : 60, 2);
            y.line(1, 0, 1, 120 * i + 2, 1, i == 9 ? 59 : 60, 2);
        }
        y.line(0, 2, 0, 1199, 1, 0, 0);
        y.waits(0, 0, 0);
        y.waits(1, 0, 0);
        due("all runs", y.stand(22), 1200);
        due("all on the way", y.way(3, 2, 0, 22), 1200);
        due("its first line", y.out(0), 0);
        due("its last line", y.out(2398), 21);
        due("its last but one", y.out(2397), 58);
        due("behind its end", y.out(2400), NONE);
        due("fewest", y.fewest(3, 2, 0, 1200, 22), 1200);
        due("last", y.last(3, 2, 5000, 22), 0);
        due("pairs", y.pairs(3, 2, 22), 1);
        due("weakest", y.weakest(3, 2, 0), 0);
    }

    // Each of 1,200 runs leaves and comes later than the one ahead: none beats another one.
    private static void mostPairs() {
        TimedNet x = netOf(2);
        for (int i = 19; i >= 0; i--) {
            x.line(0, 1, 2, 60 * i, 500, 60, 0);
        }
        due("as many as runs", x.pairs(0, 1, 20), 1200);
        due("the first one", x.pair(0, 1, 20, 0, false), 0);
        due("the last one", x.pair(0, 1, 20, 1199, false), 1199);
        due("its coming", x.pair(0, 1, 20, 1199, true), 1699);
        refused("behind the last one", x, x.pair(0, 1, 20, 1200, true), 7);
    }

    private static void firstAndLastTick() {
        TimedNet x = netOf(3);
        x.line(2, 1, 0, 0, 1, 0, 0);
        x.line(2, 0, 0, 4999, 1, 0, 0);
        due("both are reached", x.reached(2, 0, 5000, 2), 3);
        due("at the first tick", x.first(2, 1, 0, 2), 1);
        due("at the last tick", x.first(2, 0, 0, 2), 5000);
    }

    private static TimedNet madeFull() {
        TimedNet x = new TimedNet();
        for (int i = 0; i < 24; i++) {
            x.node(i % 3, i % 4 == 0 ? NONE : 40 + i);
        }
        for (int i = 0; i < 100; i++) {
            x.line(i % 24, (i + 1 + i / 24) % 24, 1 + i % 2, 40 * (i % 24) + 7 * (i / 24), 5 + i % 9, 12, 9);
        }
        for (int i = 0; i < 60; i++) {
            x.close(i % 24, 1500 + i, 1500 + 2 * i);
        }
        for (int i = 0; i < 230; i++) {
            x.delay(i % 100, i % 12, i % 40);
        }
        for (int i = 0; i < 10; i++) {
            x.strike(9 * i + 1);
        }
        return x;
    }

    // Made anew for each two nodes, as an object is used for 512 calls and 424 of them make it.
    private static void fullNet() {
        for (int i = 0; i < 80; i++) {
            int a = i % 24;
            answersAgree(madeFull(), a, (a + 1 + i % 23) % 24);
        }
    }

    private static void answersAgree(TimedNet x, int a, int b) {
        due("full", x.changes(), 400);
        int first = x.first(a, b, 0, 400);
        int line = x.weakest(a, b, 0);
        due("a way or none", first == NONE, line == NONE);
        if (first != NONE) {
            due("the first pair comes first", x.pair(a, b, 400, 0, true), first);
            due("its leaving", x.pair(a, b, 400, 0, false), x.last(a, b, first, 400));
            int without = x.without(a, b, 0, line);
            due("not sooner without a line", without == NONE || without >= first, true);
        }
    }

    // What calls behind the 512th answer is free, but none may throw or fail to end.
    private static void oddNumbers(TimedNet x) {
        for (int a : ODD) {
            x.strike(a);
            x.out(a);
            x.stand(a);
            for (int b : ODD) {
                x.told(a, b);
                x.node(a, b);
                for (int c : ODD) {
                    x.waits(a, b, c);
                    x.close(a, b, c);
                    x.delay(a, b, c);
                    x.weakest(a, b, c);
                    x.pairs(a, b, c);
                    oddNumbers(x, a, b, c);
                }
            }
            x.undo();
        }
    }

    private static void oddNumbers(TimedNet x, int a, int b, int c) {
        for (int d : ODD) {
            x.run(a, b, c, d);
            x.first(a, b, c, d);
            x.last(a, b, c, d);
            x.way(a, b, c, d);
            x.reached(a, b, c, d);
            x.without(a, b, c, d);
            x.pair(a, b, c, d, d > 1);
            x.quickest(a, b, c, d, 1);
            x.fewest(a, b, d, c, d);
            x.isReached(a, b, c, d, d);
            x.line(a, b, c, d, 1, 2, d);
            x.line(0, 1, a, b, c, d, 500);
        }
    }

    // All calls of a run live in one room of 7.3 million fields and elements, four bytes each at least.
    private static void roomOfCalls() {
        com.sun.management.ThreadMXBean threads =
                (com.sun.management.ThreadMXBean) java.lang.management.ManagementFactory.getThreadMXBean();
        long me = Thread.currentThread().getId();
        long before = threads.getThreadAllocatedBytes(me);
        TimedNet x = madeFull();
        for (int i = 0; i < 88; i++) {
            x.weakest(i % 24, (i + 5) % 24, 0);
        }
        long bytes = threads.getThreadAllocatedBytes(me) - before;
        due("bytes beyond the room of a run", Math.max(0, bytes - 4L * 7_300_000), 0);
    }
}
