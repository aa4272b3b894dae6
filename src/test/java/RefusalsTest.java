import java.util.ArrayList;
import java.util.Arrays;
import java.util.List;

/**
 * Paragraph 4 of the document: which STATUS each refused call has, also where several hold; that it gives NONE,
 * or false; and that it changes nothing but STATUS, as all that can be asked behind it shows.
 */
public final class RefusalsTest extends Checks {
    private static final int LEAST = Integer.MIN_VALUE;
    private static final int MOST = Integer.MAX_VALUE;
    // Whether there is a way (5) can only be asked of a net that there was (6).
    private static final List<Integer> ORDER = List.of(1, 2, 3, 4, 6, 5, 7);
    private static final List<Integer> ORDER_OF_RUN = List.of(6, 1, 2);

    /** Nets of which calls are refused; SMALL has each kind of line and change, and a way in OUT. */
    private enum State {
        EMPTY, SMALL, FULL_NODES, FULL_LINES, FULL_RUNS, FULL_CLOSINGS, FULL_CHANGES, FULL;

        Net made() {
            Net x = new Net();
            switch (this) {
                case EMPTY: break;
                case SMALL: makeSmall(x); break;
                case FULL_NODES: addNodes(x, 24); addLines(x, 12, 1, 5); break;
                case FULL_LINES: addNodes(x, 5); addLines(x, 100, 0, 1); break;
                case FULL_RUNS: addNodes(x, 5); addLines(x, 20, 2, 60); break;
                case FULL_CLOSINGS: addNodes(x, 5); addLines(x, 10, 1, 4); addClosings(x, 60); break;
                case FULL_CHANGES: addNodes(x, 5); addLines(x, 10, 1, 4); x.ask("strike", 3); addDelays(x, 389); break;
                default: makeFull(x); break;
            }
            return x;
        }
    }

    private static void makeSmall(Net x) {
        x.ask("node", 0, NONE);
        x.ask("node", 2, NONE);
        x.ask("node", 0, 3);
        x.ask("node", 0, NONE);
        // At node 1 one waits just as long as CHANGE, at node 2 as LONGEST: other waits would show.
        x.ask("line", 0, 1, 0, 10, 5, 0, 0);
        x.ask("line", 1, 2, 1, 17, 3, 3, 4);
        x.ask("line", 2, 3, 2, 23, 6, 4, 0);
        x.ask("line", 0, 3, 0, 12, 40, 0, 0);
        x.ask("delay", 1, 2, 5);
        x.ask("close", 3, 30, 30);
        x.ask("strike", 3);
        x.ask("way", 0, 3, 0, 7);
    }

    private static void makeFull(Net x) {
        addNodes(x, 24);
        addLines(x, 100, 1, 12);
        addClosings(x, 60);
        x.ask("strike", 3);
        addDelays(x, 239);
    }

    private static void addNodes(Net x, int count) {
        for (int i = 0; i < count; i++) {
            x.ask("node", i % 3, i % 4 == 0 ? NONE : 40 + i);
        }
    }

    private static void addLines(Net x, int count, int kind, int times) {
        for (int i = 0; i < count; i++) {
            x.ask("line", i % 5, (i + 1) % 5, kind, 20 * (i % 5) + i / 5, 9, times, 7);
        }
    }

    private static void addClosings(Net x, int count) {
        for (int i = 0; i < count; i++) {
            x.ask("close", i % 5, 200 + 3 * i, 201 + 3 * i);
        }
    }

    private static void addDelays(Net x, int count) {
        for (int i = 0; i < count; i++) {
            x.ask("delay", 4 + i % 6, i % 4, i);
        }
    }

    public static void main(String[] args) {
        answersOfTheEmptyNet();
        refusalsOfTheEmptyNet();
        refusalsOfChanges();
        refusalsOfTold();
        refusalsOfWays();
        refusalsOfTwoTicks();
        refusalsOfPairs();
        refusalsOfMissedLines();
        tooManyNodes();
        tooManyLines();
        tooManyRuns();
        tooManyClosings();
        tooManyChanges();
        tooManyOfAll();
        struckAlready();
        statusOfEachCall();
        end("all refusals are as due");
    }

    /** Calls the net, then holds all that can be asked of it against a net that was not called so. */
    private static void refusal(State state, int want, String name, int... g) {
        String call = state + ": " + name + Arrays.toString(g);
        Net x = state.made();
        due(call, x.ask(name, g), Net.noAnswer(name));
        due(call + ", status", x.ask("status"), want);
        due(call + ", status asked again", x.ask("status"), want);
        Net twin = state.made();
        for (int i = 0; i < 3; i++) {
            twin.ask("changes");
        }
        List<Integer> got = allThatCanBeAsked(x);
        List<Integer> due = allThatCanBeAsked(twin);
        due(call + ", calls behind it", got.size(), due.size());
        for (int i = 0; i < Math.min(got.size(), due.size()); i++) {
            due(call + ", answer " + i + " behind it", got.get(i), due.get(i));
        }
    }

    private static List<Integer> allThatCanBeAsked(Net x) {
        List<Integer> found = new ArrayList<>();
        int all = x.ask("changes");
        found.add(all);
        for (int k = 0; k < 8; k++) {
            found.add(x.ask("out", k));
        }
        for (int i = 0; i < 4; i++) {
            found.add(x.ask("first", i, i + 1, 0, all));
            found.add(x.ask("first", 0, i + 1, 0, all));
            found.add(x.ask("pairs", i, i + 1, all));
        }
        found.add(x.ask("stand", all));
        found.add(x.ask("stand", all / 2));
        askAllElse(x, all, found);
        return found;
    }

    private static void askAllElse(Net x, int all, List<Integer> found) {
        for (int line = 0; line < 100 && x.callsLeft() > 48; line++) {
            found.add(x.ask("told", line, 7));
            found.add(x.ask("run", line, line % 3, all, line % 3));
            found.add(x.ask("told", line, line % 7));
        }
        // What is free, what is next, and what is ahead of the latest change.
        found.add(x.ask("node", 0, NONE));
        for (int i = 0; i < 4; i++) {
            found.add(x.ask("line", 0, 1, 0, 4000, 1, 0, 0));
            found.add(x.ask("close", 1, 4001, 4001));
            found.add(x.ask("delay", i, 0, i));
            found.add(x.ask("strike", i));
            found.add(x.ask("undo"));
            found.add(x.ask("undo"));
            found.add(x.ask("changes"));
            found.add(x.ask("first", 0, 1, 0, 2));
        }
    }

    /** One place among a call's numbers: which it may hold at its edges, and which have a STATUS of their own. */
    private static final class Place {
        private final int[] fine;
        private final List<int[]> faults = new ArrayList<>();

        private Place(int... fine) {
            this.fine = fine;
        }

        private static Place allows(int... fine) {
            return new Place(fine);
        }

        private Place but(int status, int... numbers) {
            for (int number : numbers) {
                faults.add(new int[] {number, status});
            }
            return this;
        }
    }

    private static Place node(int least, int most) {
        return Place.allows(least, most).but(1, LEAST, -1, 4, 5, MOST);
    }

    private static Place tick() {
        return Place.allows(0, 5000).but(2, LEAST, -1, 5001, MOST);
    }

    private static Place version() {
        return Place.allows(0, 7).but(6, LEAST, -1, 8, MOST);
    }

    /** Each edge, each fault, and each two faults of a call that is fine with the numbers g, on SMALL. */
    private static void table(String name, int[] g, Place... places) {
        Net x = State.SMALL.made();
        x.ask(name, g);
        due(name + Arrays.toString(g) + " is fine", x.ask("status"), 0);
        for (int i = 0; i < places.length; i++) {
            for (int number : places[i].fine) {
                isAllowed(name, with(g, i, number));
            }
            for (int[] fault : places[i].faults) {
                refusal(State.SMALL, fault[1], name, with(g, i, fault[0]));
                for (int j = i + 1; j < places.length; j++) {
                    twoFaults(name, with(g, i, fault[0]), fault[1], j, places[j]);
                }
            }
        }
    }

    private static int[] with(int[] g, int place, int number) {
        int[] changed = g.clone();
        changed[place] = number;
        return changed;
    }

    private static void isAllowed(String name, int[] g) {
        Net x = State.SMALL.made();
        int got = x.ask(name, g);
        int status = x.ask("status");
        String call = name + Arrays.toString(g);
        boolean noneIsThere = status == 5 || status == 7;
        due(call + " is allowed", status == 0 || noneIsThere, true);
        due(call + " has no answer", got == Net.noAnswer(name), noneIsThere);
    }

    private static void twoFaults(String name, int[] g, int status, int place, Place second) {
        for (int[] fault : second.faults) {
            refusal(State.SMALL, ahead(name, status, fault[1]), name, with(g, place, fault[0]));
        }
    }

    private static int ahead(String name, int one, int other) {
        List<Integer> order = name.equals("run") ? ORDER_OF_RUN : ORDER;
        return order.indexOf(one) <= order.indexOf(other) ? one : other;
    }

    // "No NODES, no LINES, no CHANGES; OUT is empty; STATUS 0."
    private static void answersOfTheEmptyNet() {
        due("a new one's status", new Net().ask("status"), 0);
        due("a new one's out", new Net().ask("out", 0), NONE);
        Object[][] want = {{"changes", 0}, {"stand", 0, 0}, {"node", 0, 0, NONE}, {"node", 0, 200, 5000}};
        for (Object[] row : want) {
            Net x = new Net();
            int[] g = new int[row.length - 2];
            for (int i = 0; i < g.length; i++) {
                g[i] = (Integer) row[i + 2];
            }
            due("the empty net's " + row[0], x.ask((String) row[0], g), (Integer) row[1]);
            due("its status", x.ask("status"), 0);
        }
    }

    private static void refusalsOfTheEmptyNet() {
        refusal(State.EMPTY, 2, "node", 0, 5001);
        refusal(State.EMPTY, 1, "waits", 0, 0, NONE);
        refusal(State.EMPTY, 1, "line", 0, 1, 0, 0, 1, 0, 0);
        refusal(State.EMPTY, 1, "strike", 0);
        refusal(State.EMPTY, 1, "delay", 0, 0, 0);
        refusal(State.EMPTY, 1, "close", 0, 0, 0);
        refusal(State.EMPTY, 6, "undo");
        refusal(State.EMPTY, 1, "told", 0, 0);
        refusal(State.EMPTY, 1, "run", 0, 0, 0, 0);
        refusal(State.EMPTY, 6, "run", 0, 0, 1, 0);
        refusal(State.EMPTY, 1, "first", 0, 1, 0, 0);
        refusal(State.EMPTY, 1, "last", 0, 1, 0, 0);
        refusal(State.EMPTY, 1, "quickest", 0, 1, 0, 0, 0);
        refusal(State.EMPTY, 1, "fewest", 0, 1, 0, 0, 0);
        refusal(State.EMPTY, 1, "way", 0, 1, 0, 0);
        refusal(State.EMPTY, 1, "pairs", 0, 1, 0);
        refusal(State.EMPTY, 1, "pair", 0, 1, 0, 0, 0);
        refusal(State.EMPTY, 1, "reached", 0, 0, 0, 0);
        refusal(State.EMPTY, 1, "isReached", 0, 0, 0, 0, 0);
        refusal(State.EMPTY, 1, "without", 0, 1, 0, 0);
        refusal(State.EMPTY, 1, "weakest", 0, 1, 0);
        refusal(State.EMPTY, 6, "stand", 1);
        refusal(State.EMPTY, 6, "stand", -1);
    }

    // node (2; 3), waits (1; 2), line (1; 2; 3), strike (1; 3; 4), delay (1; 2; 3; 4), close (1; 2; 3)
    private static void refusalsOfChanges() {
        Place change = Place.allows(0, 200).but(2, LEAST, -1, 201, MOST);
        Place longest = Place.allows(-1, 5, 5000).but(2, LEAST, -2, 4, 5001, MOST);
        table("node", new int[] {5, 300}, change, longest);
        table("waits", new int[] {1, 5, 300}, node(0, 3), change, longest);
        table("line", new int[] {0, 1, 1, 10, 5, 3, 7}, node(2, 3), node(2, 3).but(1, 0),
                Place.allows(0, 1, 2).but(2, LEAST, -1, 3, MOST), tick(),
                Place.allows(1, 500).but(2, LEAST, 0, 501, MOST),
                Place.allows(2, 60).but(2, LEAST, 1, 61, MOST),
                Place.allows(1, 500).but(2, LEAST, 0, 501, MOST));
        table("strike", new int[] {1}, Place.allows(0, 2).but(1, LEAST, -1, 4, MOST).but(4, 3));
        table("delay", new int[] {1, 0, 7}, Place.allows(0, 2).but(1, LEAST, -1, 4, MOST).but(4, 3),
                Place.allows(0, 2).but(1, LEAST, -1, 3, MOST),
                Place.allows(0, 500).but(2, LEAST, -1, 501, MOST));
        table("close", new int[] {1, 5, 9}, node(0, 3), Place.allows(0, 9).but(2, LEAST, -1, 10, 5001, MOST),
                Place.allows(5, 5000).but(2, LEAST, -1, 4, 5001, MOST));
    }

    // told (1; 2), run (1; 2; 6; asked as 6, 1, 2), stand (6)
    private static void refusalsOfTold() {
        table("told", new int[] {1, 5}, Place.allows(0, 3).but(1, LEAST, -1, 4, MOST),
                Place.allows(0, 7).but(2, LEAST, -1, 8, MOST));
        // Line 1 is the second change: it was not put AS OF 1.
        table("run", new int[] {1, 2, 7, 0}, Place.allows(1, 2).but(1, LEAST, -1, 4, MOST),
                Place.allows(0, 2).but(1, LEAST, -1, 3, MOST),
                Place.allows(2, 7).but(6, LEAST, -1, 8, MOST).but(1, 0, 1),
                Place.allows(0, 2).but(2, LEAST, -1, 3, MOST));
        table("stand", new int[] {7}, version());
    }

    // first, last, way (1: like ones, too; 2; 5; 6)
    private static void refusalsOfWays() {
        Place late = Place.allows(0, 10).but(2, LEAST, -1, 5001, MOST).but(5, 11, 5000);
        Place soon = Place.allows(29, 5000).but(2, LEAST, -1, 5001, MOST).but(5, 0, 28);
        Place goal = node(1, 3).but(1, 0);
        Place put = Place.allows(3, 7).but(6, LEAST, -1, 8, MOST).but(5, 0, 2);
        table("first", new int[] {0, 3, 10, 7}, node(0, 2), goal, late, put);
        table("way", new int[] {0, 3, 10, 7}, node(0, 2), goal, late, put);
        table("last", new int[] {0, 3, 29, 7}, node(0, 2), goal, soon, put);
    }

    // quickest, fewest (as first()), reached, isReached (1; 2; 6)
    private static void refusalsOfTwoTicks() {
        Place late = Place.allows(0, 10).but(2, LEAST, -1, 5001, MOST).but(5, 11, 5000);
        Place soon = Place.allows(29, 5000).but(2, LEAST, -1, 5001, MOST).but(5, 0, 28);
        Place goal = node(1, 3).but(1, 0);
        Place put = Place.allows(3, 7).but(6, LEAST, -1, 8, MOST).but(5, 0, 2);
        table("quickest", new int[] {0, 3, 10, 29, 7}, node(0, 2), goal, late, soon, put);
        table("fewest", new int[] {0, 3, 10, 29, 7}, node(0, 2), goal, late, soon, put);
        table("reached", new int[] {0, 10, 29, 7}, node(0, 3), tick(), tick(), version());
        table("isReached", new int[] {0, 3, 10, 29, 7}, node(0, 3), node(0, 3), tick(), tick(), version());
    }

    // pairs (1: like ones, too; 6), pair (1; 6; 7)
    private static void refusalsOfPairs() {
        table("pairs", new int[] {0, 3, 7}, node(0, 2), node(1, 3).but(1, 0), version());
        table("pair", new int[] {0, 3, 7, 0, 0}, node(0, 2), node(1, 3), version(),
                Place.allows(0).but(7, LEAST, -1, 1, MOST), Place.allows(0, 1));
    }

    // without (1; 2; 5), weakest (1; 2; 5: there is no way)
    private static void refusalsOfMissedLines() {
        Place late = Place.allows(0, 10).but(2, LEAST, -1, 5001, MOST).but(5, 11, 5000);
        table("without", new int[] {0, 3, 10, 3}, node(0, 2), node(1, 3), late,
                Place.allows(3).but(1, LEAST, -1, 4, MOST).but(5, 0, 1, 2));
        table("weakest", new int[] {0, 3, 10}, node(0, 2), node(1, 3), late);
    }

    // "3 one too many": NODES; what is ahead of it in the order is 2.
    private static void tooManyNodes() {
        refusal(State.FULL_NODES, 3, "node", 0, NONE);
        refusal(State.FULL_NODES, 3, "node", 200, 5000);
        refusal(State.FULL_NODES, 2, "node", 201, 5000);
        refusal(State.FULL_NODES, 2, "node", 1, 0);
        refusal(State.FULL_NODES, 1, "waits", 24, 0, NONE);
        refusal(State.FULL_NODES, 1, "close", 24, 0, 0);
        refusal(State.FULL_NODES, 1, "reached", 24, 0, 0, 0);
    }

    // "(.. 3: LINES, RUNS, CHANGES)", behind 1 and 2
    private static void tooManyLines() {
        for (int kind = 0; kind < 3; kind++) {
            refusal(State.FULL_LINES, 3, "line", 0, 1, kind, 0, 1, 2, 1);
            refusal(State.FULL_LINES, 2, "line", 0, 1, kind, 0, 0, 2, 1);
            refusal(State.FULL_LINES, 1, "line", 1, 1, kind, 0, 0, 2, 1);
        }
        refusal(State.FULL_LINES, 2, "line", 0, 1, 1, 0, 1, 2, 0);
        refusal(State.FULL_LINES, 1, "told", 100, 0);
        refusal(State.FULL_LINES, 1, "strike", 100);
        refusal(State.FULL_LINES, 1, "run", 100, 0, 100, 0);
        refusal(State.FULL_LINES, 1, "run", 99, 0, 99, 0);
        refusal(State.FULL_LINES, 1, "run", 99, 1, 100, 0);
    }

    private static void tooManyRuns() {
        for (int kind = 0; kind < 3; kind++) {
            refusal(State.FULL_RUNS, 3, "line", 0, 1, kind, 0, 1, 2, 1);
            refusal(State.FULL_RUNS, 2, "line", 0, 1, kind, 5001, 1, 2, 1);
            refusal(State.FULL_RUNS, 1, "line", 0, 5, kind, 5001, 1, 2, 1);
        }
        refusal(State.FULL_RUNS, 2, "line", 0, 1, 2, 0, 1, 61, 1);
        refusal(State.FULL_RUNS, 1, "run", 19, 60, 20, 0);
        refusal(State.FULL_RUNS, 1, "delay", 19, 60, 0);
    }

    // close (1; 2; 3)
    private static void tooManyClosings() {
        refusal(State.FULL_CLOSINGS, 3, "close", 0, 0, 0);
        refusal(State.FULL_CLOSINGS, 3, "close", 4, 0, 5000);
        refusal(State.FULL_CLOSINGS, 2, "close", 0, 1, 0);
        refusal(State.FULL_CLOSINGS, 2, "close", 0, 0, 5001);
        refusal(State.FULL_CLOSINGS, 1, "close", 5, 1, 0);
        due("other changes are not too many", State.FULL_CLOSINGS.made().ask("strike", 0), 1);
    }

    // Of each kind of CHANGE; 3 is behind 1 and 2, and ahead of 4. Line 3 is STRUCK.
    private static void tooManyChanges() {
        refusal(State.FULL_CHANGES, 3, "line", 0, 1, 0, 0, 1, 0, 0);
        refusal(State.FULL_CHANGES, 2, "line", 0, 1, 0, 0, 501, 0, 0);
        refusal(State.FULL_CHANGES, 1, "line", 0, 0, 0, 0, 501, 0, 0);
        refusal(State.FULL_CHANGES, 3, "strike", 0);
        refusal(State.FULL_CHANGES, 3, "strike", 3);
        refusal(State.FULL_CHANGES, 1, "strike", 10);
        refusal(State.FULL_CHANGES, 3, "delay", 0, 0, 0);
        refusal(State.FULL_CHANGES, 3, "delay", 3, 0, 0);
        refusal(State.FULL_CHANGES, 2, "delay", 3, 0, 501);
        refusal(State.FULL_CHANGES, 1, "delay", 3, 4, 501);
        refusal(State.FULL_CHANGES, 3, "close", 0, 0, 0);
        refusal(State.FULL_CHANGES, 2, "close", 0, 1, 0);
        refusal(State.FULL_CHANGES, 1, "close", 5, 1, 0);
        refusal(State.FULL_CHANGES, 6, "stand", 401);
        refusal(State.FULL_CHANGES, 6, "run", 0, 0, 401, 0);
        Net x = State.FULL_CHANGES.made();
        due("all of them", x.ask("changes"), 400);
        due("a node is none", x.ask("node", 0, NONE), 5);
        due("nor are waits", x.ask("waits", 0, 1, 1), 1);
        due("one can be undone", x.ask("undo"), 1);
        due("and another one done", x.ask("strike", 0), 1);
        due("and no more", x.ask("strike", 1), 0);
    }

    // A net that is full of all at once: NODES, LINES, RUNS, closed spans, CHANGES.
    private static void tooManyOfAll() {
        Net x = State.FULL.made();
        due("24 nodes are there", x.ask("reached", 23, 0, 5000, 400), 1);
        due("100 lines are there", x.ask("told", 99, 5), 12);
        due("400 changes are there", x.ask("changes"), 400);
        refusal(State.FULL, 3, "node", 0, NONE);
        refusal(State.FULL, 3, "line", 0, 1, 0, 0, 1, 0, 0);
        refusal(State.FULL, 3, "close", 0, 0, 0);
        refusal(State.FULL, 3, "delay", 0, 0, 0);
        refusal(State.FULL, 3, "strike", 0);
        refusal(State.FULL, 3, "strike", 3);
        refusal(State.FULL, 1, "first", 24, 0, 0, 400);
        refusal(State.FULL, 2, "way", 0, 1, 5001, 400);
        refusal(State.FULL, 5, "way", 23, 0, 0, 400);
        refusal(State.FULL, 6, "way", 0, 1, 0, 401);
        refusal(State.FULL, 7, "pair", 0, 1, 400, 1200, 1);
    }

    // "4 it is STRUCK already"
    private static void struckAlready() {
        refusal(State.SMALL, 4, "strike", 3);
        refusal(State.SMALL, 4, "delay", 3, 0, 0);
        refusal(State.SMALL, 4, "delay", 3, 0, 500);
        Net x = State.SMALL.made();
        due("undone", x.ask("undo"), 1);
        due("it can be late again", x.ask("delay", 3, 0, 1), 1);
        due("and struck", x.ask("strike", 3), 1);
        due("but once", x.ask("strike", 3), 0);
        due("once", x.ask("status"), 4);
    }

    // "0 else": each call that is fine has STATUS 0, even behind one that was refused; status() and out() have none.
    private static void statusOfEachCall() {
        int[][] fine = {{}, {0, NONE}, {1, 2, NONE}, {0, 1, 0, 1, 1, 0, 0}, {0}, {1, 0, 1}, {0, 1, 2}, {}, {},
            {0, 0}, {0, 0, 7, 0}, {0, 3, 0, 7}, {0, 3, 29, 7}, {0, 3, 0, 29, 7}, {0, 3, 0, 29, 7}, {0, 3, 0, 7},
            {0}, {0, 3, 7}, {0, 3, 7, 0, 1}, {0, 0, 29, 7}, {0, 3, 0, 29, 7}, {0, 3, 0, 3}, {0, 3, 0}, {7}};
        for (int i = 0; i < fine.length; i++) {
            String name = Net.NAMES.get(i);
            boolean hasNone = name.equals("status") || name.equals("out");
            Net x = State.SMALL.made();
            due("a refused call", x.ask("stand", 8), NONE);
            x.ask(name, fine[i]);
            due("the status behind " + name, x.ask("status"), hasNone ? 6 : 0);
        }
        Net x = State.SMALL.made();
        due("a refused call", x.ask("strike", 9), 0);
        due("no such number", x.ask("out", -1), NONE);
        due("no such number", x.ask("out", 6), NONE);
        due("out has no status", x.ask("status"), 1);
    }
}
