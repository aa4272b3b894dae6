/**
 * Each sentence of the document's "Terms" and of its paragraphs 2 and 3 that names a boundary has a test here,
 * with the sentence ahead of it: the last that is allowed and the first that is not, on either side.
 */
public final class BoundariesTest extends Checks {
    public static void main(String[] args) {
        terms();
        termsOfRuns();
        changes();
        ways();
        answers();
        end("all boundaries hold");
    }

    private static void terms() {
        ticksOfLeaves();
        ticksOfClosings();
        ticksOfOneTickQuestions();
        ticksOfTwoTickQuestions();
        mostNodes();
        changeOfNode();
        longestOfNode();
        longestNotBelowChange();
        mostLines();
        fromOneNodeToAnother();
        takes();
        kinds();
        timesAndPeriodOfAgain();
        timesOfSpan();
        onceLooksAtNeither();
    }

    private static void termsOfRuns() {
        numbersOfRuns();
        mostRuns();
        mostRunsOfSpans();
        mostRunsStruck();
        leavingOfRuns();
        ticksOfDelay();
        closedSpanCountsBoth();
        mostClosedSpans();
        standsUntilLastTick();
        standsUnlessStruck();
        standsUnlessStartIsClosed();
        standsUnlessGoalIsClosed();
    }

    private static void changes() {
        lineAsLastChange();
        strikeAsLastChange();
        delayAsLastChange();
        closeAsLastChange();
        numbersOfChanges();
        asOfLeastAndMost();
        nodesAreNoChanges();
        lineNumbersOfAllEverPut();
        latestDelayCounts();
        undoUntilNoneIsLeft();
        undoneLineFreesItsNumber();
        undoneLineFreesItsRuns();
        undoneClosingFreesItsSpan();
        undoneStrikeAndDelay();
    }

    private static void ways() {
        notSoonerThanChange();
        notLaterThanLongest();
        longestLikeChange();
        noWaitsAtTheEnds();
        eachFromWhereTheOneAheadCame();
        toANodeMoreThanOnce();
        firstAtATickOrLater();
        lastAtATickOrAhead();
        quickestBetweenTicks();
        fewestBetweenTicks();
        wayOfFewestRuns();
        wayOfLesserLine();
        wayOfLesserRun();
        wayFromTheLastRunBack();
        pairsThatNoneBeats();
        pairsThatAreAlike();
        pairsOnEitherSide();
        reachedUntil();
        reachedItself();
    }

    private static void answers() {
        numbersOfOut();
        numbersOfPairs();
        whatIsTold();
        whatIsToldOfRuns();
        withoutALine();
        weakestWithNoneAtAll();
        theLastPromisedCall();
    }

    // "TICKS are 0 to 5,000": LEAVES.
    private static void ticksOfLeaves() {
        TimedNet x = netOf(2);
        refused("leaves -1", x, once(x, 0, 1, -1, 1), 2);
        fine("leaves 0", x, once(x, 0, 1, 0, 1), 0);
        fine("leaves 5000", x, once(x, 0, 1, 5000, 1), 1);
        refused("leaves 5001", x, once(x, 0, 1, 5001, 1), 2);
        due("two lines were put", x.changes(), 2);
        due("told 0", x.told(0, 3), 0);
        due("told 5000", x.told(1, 3), 5000);
        refused("no third line", x, x.told(2, 3), 1);
    }

    // "TICKS are 0 to 5,000": spans in which a NODE is CLOSED. "(1; 2: from above to, too; 3)"
    private static void ticksOfClosings() {
        TimedNet x = netOf(2);
        refused("from -1", x, x.close(0, -1, 3), 2);
        refused("to -1", x, x.close(0, 0, -1), 2);
        refused("both -1", x, x.close(0, -1, -1), 2);
        refused("to 5001", x, x.close(0, 0, 5001), 2);
        refused("both 5001", x, x.close(0, 5001, 5001), 2);
        refused("from above to by one", x, x.close(0, 8, 7), 2);
        refused("from above to by all", x, x.close(0, 5000, 0), 2);
        due("nothing was closed", x.changes(), 0);
        fine("tick 0 alone", x, x.close(0, 0, 0));
        fine("tick 5000 alone", x, x.close(1, 5000, 5000));
        x.line(0, 1, 1, 0, 2, 2, 1);
        x.line(0, 1, 1, 4997, 2, 2, 1);
        due("0 is closed", x.run(0, 0, 4, 2), 0);
        due("1 is not", x.run(0, 1, 4, 2), 1);
        due("4999 is not", x.run(1, 0, 4, 2), 1);
        due("5000 is closed", x.run(1, 1, 4, 2), 0);
        fine("all ticks", x, x.close(0, 0, 5000));
        due("none stands", x.stand(5), 0);
    }

    // Leaves at the first tick of all and comes at the last one of all; 0 to 1 and 0 to 2 alike.
    private static TimedNet netOfAllTicks() {
        TimedNet x = netOf(3);
        once(x, 0, 1, 0, 1);
        once(x, 0, 1, 4999, 1);
        return x;
    }

    // "TICKS are 0 to 5,000", "2 a number that can't be (ticks, too)": first, last, way, without, weakest.
    private static void ticksOfOneTickQuestions() {
        TimedNet x = netOfAllTicks();
        refused("first, -1", x, x.first(0, 1, -1, 2), 2);
        fine("first, 0", x, x.first(0, 1, 0, 2), 1);
        refused("first, 5000", x, x.first(0, 1, 5000, 2), 5);
        refused("first, 5001", x, x.first(0, 1, 5001, 2), 2);
        refused("last, -1", x, x.last(0, 1, -1, 2), 2);
        refused("last, 0", x, x.last(0, 1, 0, 2), 5);
        fine("last, 5000", x, x.last(0, 1, 5000, 2), 4999);
        refused("last, 5001", x, x.last(0, 1, 5001, 2), 2);
        refused("way, -1", x, x.way(0, 1, -1, 2), 2);
        fine("way, 0", x, x.way(0, 1, 0, 2), 1);
        refused("way, 5000", x, x.way(0, 1, 5000, 2), 5);
        refused("way, 5001", x, x.way(0, 1, 5001, 2), 2);
        refused("without, -1", x, x.without(0, 1, -1, 0), 2);
        fine("without, 0", x, x.without(0, 1, 0, 0), 5000);
        refused("without, 5000", x, x.without(0, 1, 5000, 0), 5);
        refused("without, 5001", x, x.without(0, 1, 5001, 0), 2);
        refused("weakest, -1", x, x.weakest(0, 1, -1), 2);
        fine("weakest, 0", x, x.weakest(0, 1, 0), 0);
        refused("weakest, 5000", x, x.weakest(0, 1, 5000), 5);
        refused("weakest, 5001", x, x.weakest(0, 1, 5001), 2);
    }

    // "TICKS are 0 to 5,000", "2 a number that can't be (ticks, too)": quickest, fewest, reached, isReached.
    private static void ticksOfTwoTickQuestions() {
        TimedNet x = netOfAllTicks();
        int[][] refusedTicks = {{-1, 5000}, {5001, 5000}, {0, -1}, {0, 5001}, {-1, -1}, {5001, 5001}};
        for (int[] ticks : refusedTicks) {
            String name = ticks[0] + " to " + ticks[1];
            refused("quickest, " + name, x, x.quickest(0, 1, ticks[0], ticks[1], 2), 2);
            refused("fewest, " + name, x, x.fewest(0, 1, ticks[0], ticks[1], 2), 2);
            refused("reached, " + name, x, x.reached(0, ticks[0], ticks[1], 2), 2);
            refused("isReached, " + name, x, x.isReached(0, 1, ticks[0], ticks[1], 2), 2);
        }
        int[][] fineTicks = {{0, 0, 0}, {0, 1, 1}, {0, 5000, 1}, {4999, 5000, 1}, {5000, 5000, 0}, {5000, 0, 0}};
        for (int[] ticks : fineTicks) {
            String name = ticks[0] + " to " + ticks[1];
            int answer = ticks[2] == 1 ? 1 : NONE;
            due("quickest, " + name, x.quickest(0, 1, ticks[0], ticks[1], 2), answer);
            due("quickest, status, " + name, x.status(), ticks[2] == 1 ? 0 : 5);
            due("fewest, " + name, x.fewest(0, 1, ticks[0], ticks[1], 2), answer);
            due("fewest, status, " + name, x.status(), ticks[2] == 1 ? 0 : 5);
            fine("reached, " + name, x, x.reached(0, ticks[0], ticks[1], 2), 1 + ticks[2]);
            fine("isReached, " + name, x, x.isReached(0, 1, ticks[0], ticks[1], 2), ticks[2]);
        }
    }

    // "NODES, at most 24, numbered as they come"
    private static void mostNodes() {
        TimedNet x = new TimedNet();
        refused("no node yet", x, x.waits(0, 0, NONE), 1);
        for (int i = 0; i < 24; i++) {
            refused("node " + i + " is not there", x, x.reached(i, 0, 0, 0), 1);
            fine("node " + i, x, x.node(i, NONE), i);
            fine("node " + i + " is there", x, x.reached(i, 0, 0, 0), 1);
        }
        refused("node 24", x, x.node(0, NONE), 3);
        refused("node 24 again", x, x.node(200, 5000), 3);
        refused("it is not there", x, x.waits(24, 0, NONE), 1);
        refused("nor can a line go there", x, once(x, 0, 24, 0, 1), 1);
        fine("the last one can be used", x, once(x, 22, 23, 0, 1), 0);
        fine("so it is", x, x.first(22, 23, 0, 1), 1);
    }

    // "CHANGE 0 to 200", of node() and of waits()
    private static void changeOfNode() {
        TimedNet x = new TimedNet();
        refused("node, change -1", x, x.node(-1, NONE), 2);
        fine("node, change 0", x, x.node(0, NONE), 0);
        fine("node, change 200", x, x.node(200, NONE), 1);
        refused("node, change 201", x, x.node(201, NONE), 2);
        refused("node, change 201, longest 5000", x, x.node(201, 5000), 2);
        refused("waits, change -1", x, x.waits(0, -1, NONE), 2);
        refused("waits, change 201", x, x.waits(0, 201, NONE), 2);
        fine("waits, change 200", x, x.waits(0, 200, NONE));
        fine("waits, change 0", x, x.waits(1, 0, NONE));
        fine("two were made", x, x.node(0, NONE), 2);
    }

    // "LONGEST 0 to 5,000, or NONE", of node() and of waits()
    private static void longestOfNode() {
        TimedNet x = new TimedNet();
        refused("node, longest -2", x, x.node(0, -2), 2);
        fine("node, longest NONE", x, x.node(0, -1), 0);
        fine("node, longest 0", x, x.node(0, 0), 1);
        fine("node, longest 5000", x, x.node(0, 5000), 2);
        refused("node, longest 5001", x, x.node(0, 5001), 2);
        refused("waits, longest -2", x, x.waits(0, 0, -2), 2);
        refused("waits, longest 5001", x, x.waits(0, 0, 5001), 2);
        fine("waits, longest 5000", x, x.waits(0, 0, 5000));
        fine("waits, longest 0", x, x.waits(0, 0, 0));
        fine("waits, longest NONE", x, x.waits(0, 0, -1));
        fine("three were made", x, x.node(0, NONE), 3);
    }

    // "LONGEST .. (how many may lie between at most; CHANGE or more)"
    private static void longestNotBelowChange() {
        TimedNet x = new TimedNet();
        refused("node, 1 and 0", x, x.node(1, 0), 2);
        fine("node, 1 and 1", x, x.node(1, 1), 0);
        refused("node, 200 and 199", x, x.node(200, 199), 2);
        fine("node, 200 and 200", x, x.node(200, 200), 1);
        fine("node, 200 and NONE", x, x.node(200, NONE), 2);
        refused("waits, 1 and 0", x, x.waits(0, 1, 0), 2);
        fine("waits, 1 and 1", x, x.waits(0, 1, 1));
        refused("waits, 200 and 199", x, x.waits(0, 200, 199), 2);
        fine("waits, 200 and 200", x, x.waits(0, 200, 200));
        fine("waits, 200 and 201", x, x.waits(0, 200, 201));
        fine("three were made", x, x.node(0, NONE), 3);
    }

    // "LINES, at most 100, numbered as they come"
    private static void mostLines() {
        TimedNet x = netOf(2);
        for (int i = 0; i < 100; i++) {
            refused("line " + i + " is not there", x, x.told(i, 0), 1);
            due("line", once(x, 0, 1, i, 1), i);
        }
        refused("line 100", x, once(x, 0, 1, 100, 1), 3);
        refused("it is not there", x, x.told(100, 0), 1);
        due("no change", x.changes(), 100);
        due("the last one is there", x.told(99, 3), 99);
        x.strike(0);
        refused("struck ones are lines, too", x, once(x, 0, 1, 100, 1), 3);
        due("one change more", x.changes(), 101);
    }

    // "from a NODE to another one", "(1: NODES, like ones too ..)"
    private static void fromOneNodeToAnother() {
        TimedNet x = netOf(3);
        refused("from -1", x, once(x, -1, 1, 0, 1), 1);
        refused("from 3", x, once(x, 3, 1, 0, 1), 1);
        refused("to -1", x, once(x, 1, -1, 0, 1), 1);
        refused("to 3", x, once(x, 1, 3, 0, 1), 1);
        refused("0 to 0", x, once(x, 0, 0, 0, 1), 1);
        refused("2 to 2", x, once(x, 2, 2, 0, 1), 1);
        refused("3 to 3", x, once(x, 3, 3, 0, 1), 1);
        due("none was put", x.changes(), 0);
        fine("0 to 2", x, once(x, 0, 2, 0, 1), 0);
        fine("2 to 0", x, once(x, 2, 0, 0, 1), 1);
    }

    // "TAKES 1 to 500 ticks"
    private static void takes() {
        TimedNet x = netOf(2);
        refused("takes 0", x, once(x, 0, 1, 7, 0), 2);
        refused("takes -1", x, once(x, 0, 1, 7, -1), 2);
        fine("takes 1", x, once(x, 0, 1, 7, 1), 0);
        fine("takes 500", x, once(x, 0, 1, 7, 500), 1);
        refused("takes 501", x, once(x, 0, 1, 7, 501), 2);
        due("comes at 8", x.run(0, 0, 2, 1), 8);
        due("comes at 507", x.run(1, 0, 2, 1), 507);
        due("two were put", x.changes(), 2);
    }

    // "KINDS: 0 ONCE; 1 AGAIN ..; 2 SPAN"
    private static void kinds() {
        TimedNet x = netOf(2);
        refused("kind -1", x, x.line(0, 1, -1, 7, 1, 3, 5), 2);
        refused("kind 3", x, x.line(0, 1, 3, 7, 1, 3, 5), 2);
        for (int kind = 0; kind < 3; kind++) {
            fine("kind " + kind, x, x.line(0, 1, kind, 7, 1, 3, 5), kind);
            due("told " + kind, x.told(kind, 2), kind);
        }
        due("three were put", x.changes(), 3);
    }

    // "1 AGAIN: TIMES (2 to 60) times, each PERIOD (1 to 500) ticks behind the one ahead"
    private static void timesAndPeriodOfAgain() {
        TimedNet x = netOf(2);
        refused("again, 1 times", x, x.line(0, 1, 1, 7, 1, 1, 5), 2);
        refused("again, 61 times", x, x.line(0, 1, 1, 7, 1, 61, 5), 2);
        refused("again, period 0", x, x.line(0, 1, 1, 7, 1, 2, 0), 2);
        refused("again, period -1", x, x.line(0, 1, 1, 7, 1, 2, -1), 2);
        refused("again, period 501", x, x.line(0, 1, 1, 7, 1, 2, 501), 2);
        due("none was put", x.changes(), 0);
        fine("again, 2 times, period 1", x, x.line(0, 1, 1, 7, 1, 2, 1), 0);
        fine("again, 60 times, period 500", x, x.line(0, 1, 1, 7, 1, 60, 500), 1);
        due("the second of two", x.run(0, 1, 2, 0), 8);
        due("the second of 60", x.run(1, 1, 2, 0), 507);
        due("the last of 60", x.run(1, 59, 2, 0), 7 + 59 * 500);
        due("told 60", x.told(1, 5), 60);
        due("told 500", x.told(1, 6), 500);
    }

    // "2 SPAN: it can be taken at each tick of LEAVES and the TIMES - 1 (TIMES 2 to 60) ticks behind it"
    private static void timesOfSpan() {
        TimedNet x = netOf(2);
        refused("span, 1 times", x, x.line(0, 1, 2, 7, 1, 1, 5), 2);
        refused("span, 61 times", x, x.line(0, 1, 2, 7, 1, 61, 5), 2);
        due("none was put", x.changes(), 0);
        fine("span, 2 times, period 0", x, x.line(0, 1, 2, 7, 1, 2, 0), 0);
        fine("span, 60 times, period 501", x, x.line(0, 1, 2, 100, 1, 60, 501), 1);
        fine("at 6, 7", x, x.first(0, 1, 6, 2), 8);
        fine("at 8", x, x.first(0, 1, 8, 2), 9);
        fine("not at 9", x, x.first(0, 1, 9, 2), 101);
        for (int tick = 100; tick < 160; tick++) {
            due("at " + tick, x.first(0, 1, tick, 2), tick + 1);
        }
        refused("not at 160", x, x.first(0, 1, 160, 2), 5);
        due("its period is none", x.told(1, 6), 0);
    }

    // "Of ONCE times and period are not looked at, of SPAN period"
    private static void onceLooksAtNeither() {
        TimedNet x = netOf(2);
        int[] odd = {Integer.MIN_VALUE, -1, 0, 1, 2, 61, 501, Integer.MAX_VALUE};
        for (int i = 0; i < odd.length; i++) {
            fine("once, " + odd[i], x, x.line(0, 1, 0, 7, 1, odd[i], odd[odd.length - 1 - i]), 2 * i);
            fine("span, " + odd[i], x, x.line(0, 1, 2, 7, 1, 2, odd[i]), 2 * i + 1);
            due("once has one run", x.told(2 * i, 5), 1);
            due("once has no period", x.told(2 * i, 6), 0);
            due("span has two runs", x.told(2 * i + 1, 5), 2);
            due("span has no period", x.told(2 * i + 1, 6), 0);
            due("its second leaves a tick later", x.run(2 * i + 1, 1, 2 * i + 2, 0), 8);
        }
    }

    // "RUNS of a LINE are numbered from 0 on: ONCE has one, AGAIN and SPAN as many as TIMES."
    private static void numbersOfRuns() {
        TimedNet x = netOf(2);
        x.line(0, 1, 0, 7, 1, 9, 9);
        x.line(0, 1, 1, 7, 1, 2, 3);
        x.line(0, 1, 2, 7, 1, 60, 0);
        int[] last = {0, 1, 59};
        for (int line = 0; line < 3; line++) {
            int all = x.changes();
            refused("run -1 of " + line, x, x.run(line, -1, all, 0), 1);
            fine("run 0 of " + line, x, x.run(line, 0, all, 0), 7);
            fine("last of " + line, x, x.run(line, last[line], all, 2), 1);
            refused("behind the last of " + line, x, x.run(line, last[line] + 1, all, 0), 1);
            refused("delay of -1 of " + line, x, x.delay(line, -1, 0), 1);
            refused("delay behind the last of " + line, x, x.delay(line, last[line] + 1, 0), 1);
            due("no change", x.changes(), all);
            fine("delay of 0 of " + line, x, x.delay(line, 0, 100));
            fine("delay of the last of " + line, x, x.delay(line, last[line], 200));
            due("it is late", x.run(line, last[line], all + 2, 1) > 200, true);
        }
    }

    private static TimedNet netOfRuns(int lines, int kind) {
        TimedNet x = netOf(2);
        for (int i = 0; i < lines; i++) {
            x.line(0, 1, kind, 0, 1, 60, 1);
        }
        return x;
    }

    // "All LINES together have at most 1,200 RUNS"
    private static void mostRuns() {
        TimedNet x = netOfRuns(19, 1);
        fine("58 more: 1198", x, x.line(0, 1, 1, 0, 1, 58, 1), 19);
        refused("3 more", x, x.line(0, 1, 1, 0, 1, 3, 1), 3);
        refused("60 more", x, x.line(0, 1, 2, 0, 1, 60, 1), 3);
        fine("1 more: 1199", x, once(x, 0, 1, 0, 1), 20);
        refused("2 more", x, x.line(0, 1, 2, 0, 1, 2, 1), 3);
        fine("1 more: 1200", x, once(x, 0, 1, 0, 1), 21);
        refused("1 more: 1201", x, once(x, 0, 1, 0, 1), 3);
        due("22 lines", x.changes(), 22);
        due("all stand", x.stand(22), 1200);
        refused("no line 22", x, x.told(22, 0), 1);
    }

    // The same of SPANS, up to the last one of all at once.
    private static void mostRunsOfSpans() {
        TimedNet x = netOfRuns(19, 2);
        fine("60 more: 1200", x, x.line(0, 1, 2, 0, 1, 60, 1), 19);
        refused("2 more", x, x.line(0, 1, 2, 0, 1, 2, 1), 3);
        refused("1 more", x, once(x, 0, 1, 0, 1), 3);
        due("all stand", x.stand(20), 1200);
        due("the last of all", x.run(19, 59, 20, 0), 59);
        fine("it can be late", x, x.delay(19, 59, 500));
        due("it is", x.run(19, 59, 21, 0), 559);
    }

    // ".. 1,200 RUNS, STRUCK or not"
    private static void mostRunsStruck() {
        TimedNet x = netOfRuns(20, 1);
        for (int i = 0; i < 20; i++) {
            x.strike(i);
        }
        due("none stands", x.stand(40), 0);
        refused("no run more", x, once(x, 0, 1, 0, 1), 3);
        refused("no two more", x, x.line(0, 1, 1, 0, 1, 2, 1), 3);
        due("no change", x.changes(), 40);
    }

    // "A RUN leaves at LEAVES, later by its number times PERIOD (AGAIN), or by its number (SPAN), and by the
    // DELAY that was told of it; it comes TAKES ticks later."
    private static void leavingOfRuns() {
        TimedNet x = netOf(2);
        x.line(0, 1, 1, 100, 30, 4, 50);
        x.line(0, 1, 2, 100, 30, 4, 50);
        x.line(0, 1, 0, 100, 30, 4, 50);
        x.delay(0, 2, 7);
        x.delay(1, 2, 7);
        x.delay(2, 0, 7);
        int[][] want = {{100, 150, 207, 250}, {100, 101, 109, 103}, {107}};
        for (int line = 0; line < 3; line++) {
            for (int run = 0; run < want[line].length; run++) {
                String name = "line " + line + ", run " + run;
                due(name + " leaves", x.run(line, run, 6, 0), want[line][run]);
                due(name + " comes", x.run(line, run, 6, 1), want[line][run] + 30);
            }
        }
    }

    // "The DELAY of a RUN, 0 to 500 ticks"
    private static void ticksOfDelay() {
        TimedNet x = netOf(2);
        once(x, 0, 1, 10, 1);
        refused("-1", x, x.delay(0, 0, -1), 2);
        fine("500", x, x.delay(0, 0, 500));
        due("late by 500", x.run(0, 0, 2, 0), 510);
        refused("501", x, x.delay(0, 0, 501), 2);
        due("as it was", x.run(0, 0, 2, 0), 510);
        due("two changes", x.changes(), 2);
        fine("0", x, x.delay(0, 0, 0));
        due("on time", x.run(0, 0, 3, 0), 10);
        due("0 is a change, too", x.changes(), 3);
    }

    // "CLOSED is a NODE in told spans of ticks (both counted)"
    private static void closedSpanCountsBoth() {
        TimedNet x = netOf(3);
        x.line(0, 1, 2, 10, 5, 10, 0);
        x.close(0, 12, 14);
        int[] stands = {1, 1, 0, 0, 0, 1, 1, 1, 1, 1};
        for (int run = 0; run < 10; run++) {
            due("leaving at " + (10 + run), x.run(0, run, 2, 2), stands[run]);
        }
        x.close(1, 22, 22);
        x.close(2, 0, 5000);
        int[] less = {1, 1, 0, 0, 0, 1, 1, 0, 1, 1};
        for (int run = 0; run < 10; run++) {
            due("coming at " + (15 + run), x.run(0, run, 4, 2), less[run]);
        }
        x.close(0, 14, 16);
        due("spans that overlap", x.stand(5), 4);
    }

    // "spans .., at most 60 in all"
    private static void mostClosedSpans() {
        TimedNet x = netOf(24);
        x.line(0, 1, 2, 10, 5, 60, 0);
        for (int i = 0; i < 59; i++) {
            fine("span " + i, x, x.close(2 + i % 22, 0, 5000));
        }
        fine("span 59, of another node", x, x.close(1, 15, 15));
        due("it counts", x.stand(61), 59);
        refused("span 60", x, x.close(1, 16, 16), 3);
        refused("span 60, at a node without one", x, x.close(0, 16, 16), 3);
        due("no change", x.changes(), 61);
        due("they don't count", x.stand(61), 59);
    }

    // "A RUN STANDS, if .. its leaving and coming are not above 5,000"
    private static void standsUntilLastTick() {
        TimedNet x = netOf(2);
        x.line(0, 1, 2, 4499, 500, 3, 0);
        due("comes at 4999", x.run(0, 0, 1, 2), 1);
        due("comes at 5000", x.run(0, 1, 1, 2), 1);
        due("comes at 5001", x.run(0, 2, 1, 2), 0);
        due("it is told all the same", x.run(0, 2, 1, 1), 5001);
        x.line(0, 1, 1, 4999, 1, 3, 1);
        due("4999 to 5000", x.run(1, 0, 2, 2), 1);
        due("5000 to 5001", x.run(1, 1, 2, 2), 0);
        due("5001 to 5002", x.run(1, 2, 2, 2), 0);
        due("three stand", x.stand(2), 3);
        x.delay(1, 0, 1);
        due("late by one", x.run(1, 0, 3, 2), 0);
        x.delay(1, 0, 0);
        due("on time again", x.run(1, 0, 4, 2), 1);
        due("far behind the end", x.line(0, 1, 1, 5000, 500, 60, 500), 2);
        due("its last run leaves", x.run(2, 59, 5, 0), 34500);
        due("it can be later still", x.delay(2, 59, 500), true);
        due("its last run comes", x.run(2, 59, 6, 1), 35500);
        due("none of them stands", x.stand(6), 3);
    }

    // "A RUN STANDS, if its LINE is not STRUCK"
    private static void standsUnlessStruck() {
        TimedNet x = netOf(2);
        x.line(0, 1, 1, 10, 5, 3, 5);
        x.line(0, 1, 1, 10, 5, 3, 5);
        x.strike(0);
        for (int run = 0; run < 3; run++) {
            due("of the struck line", x.run(0, run, 3, 2), 0);
            due("of the other line", x.run(1, run, 3, 2), 1);
            due("ahead of the strike", x.run(0, run, 2, 2), 1);
        }
    }

    // ".. the NODE from which it leaves is not CLOSED then": not as it comes, and not just ahead or behind.
    private static void standsUnlessStartIsClosed() {
        int[][] spans = {{0, 9, 1}, {0, 10, 0}, {10, 10, 0}, {10, 5000, 0}, {11, 5000, 1}, {15, 15, 1}};
        for (int[] span : spans) {
            TimedNet x = netOf(2);
            once(x, 0, 1, 10, 5);
            x.close(0, span[0], span[1]);
            due("start closed " + span[0] + " to " + span[1], x.run(0, 0, 2, 2), span[2]);
            due("stand", x.stand(2), span[2]);
        }
    }

    // ".. and that to which it comes is not as it comes": not as it leaves, and not on the way.
    private static void standsUnlessGoalIsClosed() {
        int[][] spans = {{0, 14, 1}, {10, 10, 1}, {0, 15, 0}, {15, 15, 0}, {15, 5000, 0}, {16, 5000, 1}};
        for (int[] span : spans) {
            TimedNet x = netOf(2);
            once(x, 0, 1, 10, 5);
            x.close(1, span[0], span[1]);
            due("goal closed " + span[0] + " to " + span[1], x.run(0, 0, 2, 2), span[2]);
            due("stand", x.stand(2), span[2]);
        }
    }

    // 399 CHANGES: lines 0 and 1, then delays of the run of line 0, so that AS OF v it leaves at v.
    private static TimedNet netOf399Changes() {
        TimedNet x = netOf(2);
        once(x, 0, 1, 0, 1);
        once(x, 1, 0, 0, 1);
        for (int i = 3; i <= 399; i++) {
            x.delay(0, 0, i);
        }
        return x;
    }

    // "CHANGES, at most 400: lines put .."
    private static void lineAsLastChange() {
        TimedNet x = netOf399Changes();
        due("399", x.changes(), 399);
        fine("line is 400", x, once(x, 0, 1, 7, 1), 2);
        refused("line is 401", x, once(x, 0, 1, 8, 1), 3);
        refused("none was put", x, x.told(3, 0), 1);
        fine("400", x, x.changes(), 400);
        fine("as of 400", x, x.first(0, 1, 0, 400), 8);
        fine("as of 399", x, x.first(0, 1, 0, 399), 400);
        refused("as of 401", x, x.first(0, 1, 0, 401), 6);
    }

    // "CHANGES, at most 400: lines .. struck"
    private static void strikeAsLastChange() {
        TimedNet x = netOf399Changes();
        fine("strike is 400", x, x.strike(0));
        refused("strike is 401", x, x.strike(1), 3);
        due("it is not struck", x.told(1, 7), 0);
        fine("400", x, x.changes(), 400);
        refused("as of 400", x, x.first(0, 1, 0, 400), 5);
        fine("as of 399", x, x.first(0, 1, 0, 399), 400);
        fine("the other", x, x.first(1, 0, 0, 400), 1);
    }

    // "CHANGES, at most 400: .. delays"
    private static void delayAsLastChange() {
        TimedNet x = netOf399Changes();
        fine("delay is 400", x, x.delay(0, 0, 400));
        refused("delay is 401", x, x.delay(0, 0, 401), 3);
        fine("400", x, x.changes(), 400);
        fine("as of 400", x, x.first(0, 1, 0, 400), 401);
        fine("as of 399", x, x.first(0, 1, 0, 399), 400);
    }

    // "CHANGES, at most 400: .. spans in which a NODE is CLOSED"
    private static void closeAsLastChange() {
        TimedNet x = netOf399Changes();
        fine("close is 400", x, x.close(0, 0, 0));
        refused("close is 401", x, x.close(0, 399, 399), 3);
        fine("400", x, x.changes(), 400);
        fine("as of 400", x, x.first(0, 1, 0, 400), 400);
        fine("undone", x, x.undo());
        fine("now there is room", x, x.close(0, 399, 399));
        refused("as of 400 now", x, x.first(0, 1, 0, 400), 5);
    }

    // "each is numbered from 1 on, as it is done. The net AS OF v ..: what the first v CHANGES made."
    private static void numbersOfChanges() {
        TimedNet x = netOf(2);
        once(x, 0, 1, 20, 5);
        once(x, 0, 1, 10, 5);
        x.delay(1, 0, 3);
        x.close(1, 18, 18);
        x.delay(0, 0, 1);
        x.strike(0);
        int[] first = {NONE, 25, 15, 18, 25, 26, NONE};
        int[] stand = {0, 1, 2, 2, 1, 1, 0};
        for (int v = 0; v <= 6; v++) {
            due("first as of " + v, x.first(0, 1, 0, v), first[v]);
            due("stand as of " + v, x.stand(v), stand[v]);
        }
        for (int v = 6; v >= 0; v--) {
            due("first as of " + v + " again", x.first(0, 1, 0, v), first[v]);
        }
        fine("changes", x, x.changes(), 6);
    }

    // "AS OF v (0 to as many as there were)", of each call that takes v
    private static void asOfLeastAndMost() {
        TimedNet x = netOf(2);
        once(x, 0, 1, 10, 5);
        x.delay(0, 0, 1);
        for (int v : new int[] {Integer.MIN_VALUE, -1, 3, Integer.MAX_VALUE}) {
            refused("run", x, x.run(0, 0, v, 0), 6);
            refused("first", x, x.first(0, 1, 0, v), 6);
            refused("last", x, x.last(0, 1, 5000, v), 6);
            refused("quickest", x, x.quickest(0, 1, 0, 5000, v), 6);
            refused("fewest", x, x.fewest(0, 1, 0, 5000, v), 6);
            refused("way", x, x.way(0, 1, 0, v), 6);
            refused("pairs", x, x.pairs(0, 1, v), 6);
            refused("pair", x, x.pair(0, 1, v, 0, true), 6);
            refused("reached", x, x.reached(0, 0, 5000, v), 6);
            refused("isReached", x, x.isReached(0, 1, 0, 5000, v), 6);
            refused("stand", x, x.stand(v), 6);
        }
        due("no way was told", x.out(0), NONE);
        asOfNone(x);
        asOfAll(x);
    }

    private static void asOfNone(TimedNet x) {
        refused("run as of 0", x, x.run(0, 0, 0, 0), 1);
        refused("first as of 0", x, x.first(0, 1, 0, 0), 5);
        refused("last as of 0", x, x.last(0, 1, 5000, 0), 5);
        refused("quickest as of 0", x, x.quickest(0, 1, 0, 5000, 0), 5);
        refused("fewest as of 0", x, x.fewest(0, 1, 0, 5000, 0), 5);
        refused("way as of 0", x, x.way(0, 1, 0, 0), 5);
        fine("pairs as of 0", x, x.pairs(0, 1, 0), 0);
        refused("pair as of 0", x, x.pair(0, 1, 0, 0, true), 7);
        fine("reached as of 0", x, x.reached(0, 0, 5000, 0), 1);
        fine("isReached as of 0", x, x.isReached(0, 1, 0, 5000, 0), 0);
        fine("stand as of 0", x, x.stand(0), 0);
    }

    private static void asOfAll(TimedNet x) {
        fine("run as of all", x, x.run(0, 0, 2, 0), 11);
        fine("first as of all", x, x.first(0, 1, 0, 2), 16);
        fine("last as of all", x, x.last(0, 1, 5000, 2), 11);
        fine("quickest as of all", x, x.quickest(0, 1, 0, 5000, 2), 5);
        fine("fewest as of all", x, x.fewest(0, 1, 0, 5000, 2), 1);
        fine("way as of all", x, x.way(0, 1, 0, 2), 1);
        fine("pairs as of all", x, x.pairs(0, 1, 2), 1);
        fine("pair as of all", x, x.pair(0, 1, 2, 0, true), 16);
        fine("reached as of all", x, x.reached(0, 0, 5000, 2), 2);
        fine("isReached as of all", x, x.isReached(0, 1, 0, 5000, 2), 1);
        fine("stand as of all", x, x.stand(2), 1);
    }

    // "(NODES, with CHANGE and LONGEST as they are told latest, are no CHANGES.)"
    private static void nodesAreNoChanges() {
        TimedNet x = netOf(3);
        once(x, 0, 1, 10, 5);
        once(x, 1, 2, 20, 5);
        fine("of old", x, x.first(0, 2, 0, 2), 25);
        x.waits(1, 6, NONE);
        refused("told later, AS OF what was ahead", x, x.first(0, 2, 0, 2), 5);
        x.strike(0);
        x.waits(1, 5, 5);
        fine("told later still", x, x.first(0, 2, 0, 2), 25);
        due("three changes", x.changes(), 3);
        fine("a node more", x, x.node(0, NONE), 3);
        due("still three", x.changes(), 3);
        fine("it is there AS OF 0", x, x.reached(3, 0, 5000, 0), 1);
        refused("there is no way to it", x, x.first(0, 3, 0, 0), 5);
        fine("the strike is undone", x, x.undo());
        fine("what was told of waits is not", x, x.waits(1, 0, 4));
        refused("it counts", x, x.first(0, 2, 0, 2), 5);
        fine("a line is undone", x, x.undo());
        fine("nodes are not", x, x.node(0, NONE), 4);
    }

    // "(A LINE's number is that of all that were ever put.)"
    private static void lineNumbersOfAllEverPut() {
        TimedNet x = netOf(2);
        fine("0", x, once(x, 0, 1, 10, 5), 0);
        fine("1", x, once(x, 0, 1, 20, 5), 1);
        x.strike(0);
        x.strike(1);
        fine("2, though two are struck", x, once(x, 0, 1, 30, 5), 2);
        fine("the way names it so", x, x.way(0, 1, 0, 5), 1);
        outIs("the way names it so", x, 2, 0);
        fine("0 is told still", x, x.told(0, 3), 10);
        refused("AS OF 4 it was not put", x, x.run(2, 0, 4, 0), 1);
        fine("AS OF 5 it was", x, x.run(2, 0, 5, 0), 30);
    }

    // "Of several DELAYS of a RUN the latest one counts."
    private static void latestDelayCounts() {
        TimedNet x = netOf(2);
        x.line(0, 1, 1, 10, 5, 2, 100);
        x.delay(0, 0, 9);
        x.delay(0, 1, 40);
        x.delay(0, 0, 3);
        x.delay(0, 0, 0);
        int[] leaves = {0, 10, 19, 19, 13, 10};
        for (int v = 1; v <= 5; v++) {
            due("as of " + v, x.run(0, 0, v, 0), leaves[v]);
            due("the other as of " + v, x.run(0, 1, v, 0), v < 3 ? 110 : 150);
        }
    }

    // "The latest CHANGE is undone, as if it had not been (6: there is none ..)"
    private static void undoUntilNoneIsLeft() {
        TimedNet x = netOf(2);
        refused("none yet", x, x.undo(), 6);
        once(x, 0, 1, 10, 5);
        x.close(0, 1, 2);
        fine("the second", x, x.undo());
        fine("the first", x, x.undo());
        refused("none", x, x.undo(), 6);
        fine("none is left", x, x.changes(), 0);
        refused("nor can one ask AS OF 1", x, x.stand(1), 6);
        fine("AS OF 0", x, x.stand(0), 0);
        fine("a line more", x, once(x, 0, 1, 30, 5), 0);
        fine("it stands", x, x.first(0, 1, 0, 1), 35);
    }

    // "(.. its LINE's number is free again)", at the limit of LINES
    private static void undoneLineFreesItsNumber() {
        TimedNet x = netOf(2);
        for (int i = 0; i < 100; i++) {
            once(x, 0, 1, i, 1);
        }
        fine("undone", x, x.undo());
        refused("it is gone", x, x.told(99, 0), 1);
        fine("its number is free", x, x.line(1, 0, 1, 50, 6, 3, 9), 99);
        int[] want = {1, 0, 1, 50, 6, 3, 9, 0};
        for (int what = 0; what < 8; what++) {
            due("told " + what, x.told(99, what), want[what]);
        }
        refused("101 lines are too many still", x, once(x, 0, 1, 0, 1), 3);
        fine("the new one runs", x, x.first(1, 0, 0, 100), 56);
    }

    // The same at the limit of RUNS; what was told of the old line's RUNS is not told of the new one's.
    private static void undoneLineFreesItsRuns() {
        TimedNet x = netOfRuns(20, 1);
        x.delay(19, 0, 500);
        x.strike(19);
        x.undo();
        x.undo();
        fine("the line is undone", x, x.undo());
        due("1140 are left", x.stand(19), 1140);
        fine("59 runs", x, x.line(0, 1, 2, 1000, 1, 59, 0), 19);
        fine("one more", x, once(x, 0, 1, 2000, 1), 20);
        refused("none more", x, once(x, 0, 1, 2000, 1), 3);
        fine("no delay is left", x, x.run(19, 0, 21, 0), 1000);
        fine("nor a strike", x, x.told(19, 7), 0);
        fine("all stand", x, x.stand(21), 1200);
    }

    // The same of spans in which a NODE is CLOSED.
    private static void undoneClosingFreesItsSpan() {
        TimedNet x = netOf(2);
        for (int i = 0; i < 60; i++) {
            x.close(0, i, i);
        }
        fine("undone", x, x.undo());
        fine("one is free", x, x.close(0, 70, 70));
        refused("but one", x, x.close(0, 71, 71), 3);
        x.line(0, 1, 2, 57, 1, 15, 0);
        due("58 is closed", x.run(0, 1, 61, 2), 0);
        due("59 is not, as it was undone", x.run(0, 2, 61, 2), 1);
        due("70 is closed", x.run(0, 13, 61, 2), 0);
        due("71 is not", x.run(0, 14, 61, 2), 1);
    }

    private static void undoneStrikeAndDelay() {
        TimedNet x = netOf(2);
        once(x, 0, 1, 10, 5);
        x.delay(0, 0, 7);
        x.delay(0, 0, 9);
        x.strike(0);
        refused("struck", x, x.delay(0, 0, 1), 4);
        fine("the strike is undone", x, x.undo());
        fine("not struck", x, x.told(0, 7), 0);
        fine("late by 9", x, x.first(0, 1, 0, 3), 24);
        fine("the delay is undone", x, x.undo());
        fine("late by 7", x, x.first(0, 1, 0, 2), 22);
        refused("no third change", x, x.first(0, 1, 0, 3), 6);
        fine("it can be struck again", x, x.strike(0));
        refused("and is", x, x.strike(0), 4);
    }

    // Comes to 1 at 15, leaves from there at 20: 5 lie between.
    private static TimedNet netOfWait() {
        TimedNet x = netOf(3);
        once(x, 0, 1, 10, 5);
        once(x, 1, 2, 20, 5);
        return x;
    }

    // Each of the ways' questions says whether the wait at node 1 is allowed.
    private static void wayIs(String what, TimedNet x, boolean isThere) {
        due(what + ", first", x.first(0, 2, 0, 2), isThere ? 25 : NONE);
        due(what + ", last", x.last(0, 2, 5000, 2), isThere ? 10 : NONE);
        due(what + ", quickest", x.quickest(0, 2, 0, 5000, 2), isThere ? 15 : NONE);
        due(what + ", fewest", x.fewest(0, 2, 0, 5000, 2), isThere ? 2 : NONE);
        due(what + ", way", x.way(0, 2, 0, 2), isThere ? 2 : NONE);
        due(what + ", pairs", x.pairs(0, 2, 2), isThere ? 1 : 0);
        due(what + ", reached", x.reached(0, 0, 5000, 2), isThere ? 3 : 2);
        due(what + ", isReached", x.isReached(0, 2, 0, 5000, 2), isThere ? 1 : 0);
        due(what + ", weakest", x.weakest(0, 2, 0), isThere ? 0 : NONE);
    }

    // ".. leaving not sooner than CHANGE .. behind its coming there"
    private static void notSoonerThanChange() {
        TimedNet x = netOfWait();
        for (int change = 0; change <= 8; change++) {
            x.waits(1, change, NONE);
            wayIs("change " + change, x, change <= 5);
        }
        x.delay(1, 0, 195);
        x.waits(1, 200, NONE);
        fine("change 200, wait 200", x, x.first(0, 2, 0, 3), 220);
        x.delay(1, 0, 194);
        refused("change 200, wait 199", x, x.first(0, 2, 0, 4), 5);
    }

    // ".. and, if it has a LONGEST, not later than that behind its coming there"
    private static void notLaterThanLongest() {
        TimedNet x = netOfWait();
        for (int longest = 0; longest <= 8; longest++) {
            x.waits(1, 0, longest);
            wayIs("longest " + longest, x, longest >= 5);
        }
        x.waits(1, 0, NONE);
        wayIs("no longest", x, true);
        TimedNet y = netOf(3);
        once(y, 0, 1, 0, 1);
        once(y, 1, 2, 4999, 1);
        y.waits(1, 0, 4998);
        fine("longest 4998, wait 4998", y, y.first(0, 2, 0, 2), 5000);
        y.waits(1, 0, 4997);
        refused("longest 4997, wait 4998", y, y.first(0, 2, 0, 2), 5);
        y.waits(1, 0, 5000);
        fine("longest 5000", y, y.first(0, 2, 0, 2), 5000);
    }

    private static void longestLikeChange() {
        TimedNet x = netOfWait();
        for (int wait = 3; wait <= 7; wait++) {
            x.waits(1, wait, wait);
            wayIs("change and longest " + wait, x, wait == 5);
        }
        x.waits(1, 0, 0);
        x.delay(0, 0, 5);
        fine("no wait at all", x, x.first(0, 2, 0, 3), 25);
        x.delay(0, 0, 6);
        refused("one tick late", x, x.first(0, 2, 0, 4), 5);
        x.delay(0, 0, 4);
        refused("one tick to wait", x, x.first(0, 2, 0, 5), 5);
    }

    // CHANGE and LONGEST lie between two RUNS: the first and the last node of a way have none.
    private static void noWaitsAtTheEnds() {
        TimedNet x = netOfWait();
        x.waits(0, 200, 200);
        x.waits(2, 200, 200);
        wayIs("at the ends", x, true);
        x.waits(0, 0, 0);
        x.waits(2, 0, 0);
        wayIs("at the ends, none at all", x, true);
    }

    // "each next one from where the one ahead comes to"
    private static void eachFromWhereTheOneAheadCame() {
        TimedNet x = netOf(4);
        once(x, 0, 1, 10, 5);
        once(x, 2, 3, 20, 5);
        refused("no run from 1", x, x.first(0, 3, 0, 2), 5);
        once(x, 2, 1, 15, 3);
        refused("against the run", x, x.first(0, 3, 0, 3), 5);
        once(x, 1, 2, 15, 5);
        fine("by 1 and 2", x, x.way(0, 3, 0, 4), 3);
        outIs("by 1 and 2", x, 0, 0, 3, 0, 1, 0);
    }

    // "(It may come to a NODE more than once.)"
    private static void toANodeMoreThanOnce() {
        TimedNet x = netOf(4);
        x.waits(1, 0, 2);
        once(x, 0, 1, 0, 10);
        once(x, 1, 3, 12, 3);
        once(x, 3, 1, 15, 3);
        once(x, 1, 2, 20, 5);
        fine("by 1, 3 and 1 again", x, x.way(0, 2, 0, 4), 4);
        outIs("by 1, 3 and 1 again", x, 0, 0, 1, 0, 2, 0, 3, 0);
        fine("fewest", x, x.fewest(0, 2, 0, 5000, 4), 4);
        fine("last", x, x.last(0, 2, 25, 4), 0);
        x.waits(1, 0, 10);
        fine("it need not", x, x.way(0, 2, 0, 4), 2);
        fine("from 1, to 1 again", x, x.first(1, 2, 12, 4), 25);
        fine("it may wait for the run", x, x.way(1, 2, 0, 4), 1);
    }

    // "FIRST: of ways that LEAVE at a tick or later, the least COMING."
    private static void firstAtATickOrLater() {
        TimedNet x = netOf(3);
        once(x, 0, 1, 10, 30);
        once(x, 0, 1, 12, 20);
        once(x, 0, 1, 14, 25);
        int[] tick = {0, 10, 11, 12, 13, 14};
        int[] first = {32, 32, 32, 32, 39, 39};
        for (int i = 0; i < tick.length; i++) {
            fine("from " + tick[i], x, x.first(0, 1, tick[i], 3), first[i]);
            fine("way from " + tick[i], x, x.way(0, 1, tick[i], 3), 1);
            outIs("way from " + tick[i], x, i < 4 ? 1 : 2, 0);
        }
        refused("from 15", x, x.first(0, 1, 15, 3), 5);
        refused("way from 15", x, x.way(0, 1, 15, 3), 5);
        refused("without, from 15", x, x.without(0, 1, 15, 0), 5);
        refused("weakest, from 15", x, x.weakest(0, 1, 15), 5);
        fine("without, from 14", x, x.without(0, 1, 14, 0), 39);
        fine("weakest, from 14", x, x.weakest(0, 1, 14), 2);
        once(x, 1, 2, 39, 1);
        fine("the first run's leaving counts", x, x.first(0, 2, 14, 4), 40);
        refused("not the last one's", x, x.first(0, 2, 15, 4), 5);
    }

    // "LAST: of those that COME at a tick or ahead, the greatest LEAVING."
    private static void lastAtATickOrAhead() {
        TimedNet x = netOf(3);
        once(x, 0, 1, 10, 10);
        once(x, 0, 1, 8, 14);
        once(x, 0, 1, 12, 12);
        int[] tick = {20, 21, 22, 23, 24, 5000};
        int[] last = {10, 10, 10, 10, 12, 12};
        for (int i = 0; i < tick.length; i++) {
            fine("until " + tick[i], x, x.last(0, 1, tick[i], 3), last[i]);
        }
        refused("until 19", x, x.last(0, 1, 19, 3), 5);
        once(x, 1, 2, 30, 5);
        fine("the last run's coming counts", x, x.last(0, 2, 35, 4), 12);
        refused("not its leaving", x, x.last(0, 2, 34, 4), 5);
        once(x, 2, 0, 0, 1);
        fine("a leaving at 0 is one", x, x.last(2, 0, 1, 5), 0);
        refused("until 0", x, x.last(2, 0, 0, 5), 5);
    }

    // "QUICKEST: of those that LEAVE at a tick or later and COME at another one or ahead, the least difference."
    private static void quickestBetweenTicks() {
        TimedNet x = netOf(2);
        once(x, 0, 1, 10, 7);
        once(x, 0, 1, 20, 5);
        once(x, 0, 1, 30, 6);
        int[][] want = {{0, 16, NONE}, {10, 17, 7}, {11, 17, NONE}, {10, 24, 7}, {10, 25, 5}, {20, 25, 5},
            {20, 24, NONE}, {21, 25, NONE}, {21, 36, 6}, {30, 36, 6}, {30, 35, NONE}, {31, 36, NONE},
            {0, 5000, 5}, {20, 20, NONE}, {25, 20, NONE}};
        for (int[] w : want) {
            due(w[0] + " to " + w[1], x.quickest(0, 1, w[0], w[1], 3), w[2]);
            due("status, " + w[0] + " to " + w[1], x.status(), w[2] == NONE ? 5 : 0);
        }
    }

    // "FEWEST: of these the least number of RUNS."
    private static void fewestBetweenTicks() {
        TimedNet x = netOf(3);
        once(x, 0, 1, 20, 10);
        once(x, 0, 2, 20, 2);
        once(x, 2, 1, 22, 2);
        once(x, 0, 2, 10, 2);
        int[][] want = {{0, 30, 1}, {20, 30, 1}, {0, 29, 2}, {20, 24, 2}, {0, 23, NONE}, {21, 5000, NONE},
            {20, 23, NONE}, {0, 5000, 1}};
        for (int[] w : want) {
            due(w[0] + " to " + w[1], x.fewest(0, 1, w[0], w[1], 4), w[2]);
            due("status, " + w[0] + " to " + w[1], x.status(), w[2] == NONE ? 5 : 0);
        }
    }

    // "WAY that is told: of those that LEAVE at a tick or later with the FIRST coming, those of the fewest RUNS"
    private static void wayOfFewestRuns() {
        TimedNet x = netOf(3);
        once(x, 0, 2, 10, 5);
        once(x, 2, 1, 15, 5);
        once(x, 0, 1, 9, 11);
        once(x, 0, 1, 8, 13);
        fine("one run, though of a greater line", x, x.way(0, 1, 0, 4), 1);
        outIs("one run", x, 2, 0);
        fine("it left already", x, x.way(0, 1, 10, 4), 2);
        outIs("two runs", x, 0, 0, 1, 0);
        x.delay(2, 0, 1);
        fine("it comes a tick late", x, x.way(0, 1, 0, 5), 2);
        outIs("FIRST is ahead of fewest", x, 0, 0, 1, 0);
    }

    // "of several, from the last RUN back, that with the lesser LINE"
    private static void wayOfLesserLine() {
        TimedNet x = netOf(2);
        once(x, 0, 1, 12, 8);
        once(x, 0, 1, 10, 10);
        once(x, 0, 1, 15, 5);
        fine("of three", x, x.way(0, 1, 0, 3), 1);
        outIs("of three", x, 0, 0);
        x.strike(0);
        fine("of two", x, x.way(0, 1, 0, 4), 1);
        outIs("of two", x, 1, 0);
        fine("of one", x, x.way(0, 1, 11, 4), 1);
        outIs("of one", x, 2, 0);
    }

    // "of like ones the lesser number of the RUN"
    private static void wayOfLesserRun() {
        TimedNet x = netOf(2);
        x.line(0, 1, 1, 10, 5, 3, 10);
        x.delay(0, 0, 20);
        x.delay(0, 1, 10);
        fine("all leave at 30", x, x.way(0, 1, 0, 3), 1);
        outIs("run 0", x, 0, 0);
        x.delay(0, 0, 21);
        fine("two leave at 30", x, x.way(0, 1, 0, 4), 1);
        outIs("run 1", x, 0, 1);
        x.delay(0, 1, 9);
        fine("run 1 is sooner", x, x.way(0, 1, 0, 5), 1);
        outIs("run 1 is sooner", x, 0, 1);
        fine("from 30 on", x, x.way(0, 1, 30, 5), 1);
        outIs("run 2", x, 0, 2);
    }

    // "from the last RUN back .. at the first that differs"
    private static void wayFromTheLastRunBack() {
        TimedNet x = netOf(4);
        once(x, 0, 1, 0, 5);
        once(x, 0, 2, 0, 5);
        once(x, 2, 3, 10, 5);
        once(x, 1, 3, 10, 5);
        fine("by the last run", x, x.way(0, 3, 0, 4), 2);
        outIs("by the last run, line 2", x, 1, 0, 2, 0);
        once(x, 0, 2, 3, 2);
        fine("then by the one ahead", x, x.way(0, 3, 0, 5), 2);
        outIs("of lines 1 and 4 line 1", x, 1, 0, 2, 0);
        fine("from 1 on", x, x.way(0, 3, 1, 5), 2);
        outIs("line 4", x, 4, 0, 2, 0);
        x.line(0, 2, 2, 1, 2, 3, 0);
        fine("from 1 on, of several runs", x, x.way(0, 3, 1, 6), 2);
        outIs("line 4 is less than line 5", x, 4, 0, 2, 0);
        x.strike(4);
        fine("line 5", x, x.way(0, 3, 1, 7), 2);
        outIs("its run 0", x, 5, 0, 2, 0);
        fine("from 2 on", x, x.way(0, 3, 2, 7), 2);
        outIs("its run 1", x, 5, 1, 2, 0);
    }

    // "BEST PAIRS ..: of which no other way LEAVES as late or later and COMES as soon or sooner, one of both
    // strictly": a way on each side of (20, 30).
    private static void pairsThatNoneBeats() {
        int[][] others = {{19, 29, 2}, {19, 30, 1}, {19, 31, 1}, {20, 29, 1}, {20, 30, 1}, {20, 31, 1},
            {21, 29, 1}, {21, 30, 1}, {21, 31, 2}};
        for (int[] other : others) {
            TimedNet x = netOf(2);
            once(x, 0, 1, 20, 10);
            once(x, 0, 1, other[0], other[1] - other[0]);
            String name = "(20, 30) and (" + other[0] + ", " + other[1] + ")";
            fine(name, x, x.pairs(0, 1, 2), other[2]);
            boolean isBeaten = other[2] == 1 && other[0] >= 20 && other[1] <= 30;
            boolean isBehind = other[2] == 1 || other[0] > 20;
            int[] first = isBeaten || !isBehind ? other : new int[] {20, 30};
            fine(name + ", leaving", x, x.pair(0, 1, 2, 0, false), first[0]);
            fine(name + ", coming", x, x.pair(0, 1, 2, 0, true), first[1]);
            refused(name + ", no more", x, x.pair(0, 1, 2, other[2], true), 7);
        }
    }

    // Pairs are (LEAVING, COMING): several ways of the like pair are one.
    private static void pairsThatAreAlike() {
        TimedNet x = netOf(3);
        once(x, 0, 1, 20, 10);
        once(x, 0, 1, 20, 10);
        once(x, 0, 2, 20, 4);
        once(x, 2, 1, 24, 6);
        fine("three ways, one pair", x, x.pairs(0, 1, 4), 1);
        fine("leaving", x, x.pair(0, 1, 4, 0, false), 20);
        fine("coming", x, x.pair(0, 1, 4, 0, true), 30);
        refused("no second", x, x.pair(0, 1, 4, 1, false), 7);
    }

    // "by LEAVING, the least first"; the pairs of the two directions are apart.
    private static void pairsOnEitherSide() {
        TimedNet x = netOf(2);
        once(x, 0, 1, 4999, 1);
        once(x, 0, 1, 0, 1);
        x.line(0, 1, 2, 100, 5, 3, 0);
        once(x, 1, 0, 7, 2);
        int[][] want = {{0, 1}, {100, 105}, {101, 106}, {102, 107}, {4999, 5000}};
        fine("five", x, x.pairs(0, 1, 4), 5);
        for (int k = 0; k < 5; k++) {
            fine("leaving " + k, x, x.pair(0, 1, 4, k, false), want[k][0]);
            fine("coming " + k, x, x.pair(0, 1, 4, k, true), want[k][1]);
        }
        fine("one", x, x.pairs(1, 0, 4), 1);
        fine("its leaving", x, x.pair(1, 0, 4, 0, false), 7);
    }

    // "REACHED from a NODE at a tick until another one: .. all to which a way leads that LEAVES at that tick or
    // later and COMES at the other one or ahead."
    private static void reachedUntil() {
        TimedNet x = netOf(4);
        once(x, 0, 1, 10, 5);
        once(x, 1, 2, 15, 5);
        once(x, 0, 3, 12, 9);
        int[][] want = {{0, 14, 1, 0, 0, 0}, {10, 15, 2, 1, 0, 0}, {11, 15, 1, 0, 0, 0}, {10, 19, 2, 1, 0, 0},
            {10, 20, 3, 1, 1, 0}, {10, 21, 4, 1, 1, 1}, {12, 21, 2, 0, 0, 1}, {12, 20, 1, 0, 0, 0},
            {13, 5000, 1, 0, 0, 0}, {0, 0, 1, 0, 0, 0}, {10, 10, 1, 0, 0, 0}, {15, 10, 1, 0, 0, 0}};
        for (int[] w : want) {
            String name = w[0] + " until " + w[1];
            fine("reached, " + name, x, x.reached(0, w[0], w[1], 3), w[2]);
            for (int b = 1; b < 4; b++) {
                fine(b + " is reached, " + name, x, x.isReached(0, b, w[0], w[1], 3), w[2 + b]);
            }
        }
    }

    // "REACHED ..: itself"
    private static void reachedItself() {
        TimedNet x = netOf(24);
        for (int a = 0; a < 24; a++) {
            fine("itself alone", x, x.reached(a, 0, 5000, 0), 1);
            fine("itself", x, x.isReached(a, a, 0, 0, 0), 1);
        }
        fine("at the last tick", x, x.isReached(23, 23, 5000, 5000, 0), 1);
        fine("no other one", x, x.isReached(23, 0, 0, 5000, 0), 0);
        for (int b = 1; b < 24; b++) {
            once(x, 0, b, b, 1);
            once(x, b, 0, 100 + b, 1);
        }
        fine("all, and itself once", x, x.reached(0, 0, 5000, 46), 24);
        fine("until 23: all but the last", x, x.reached(0, 0, 23, 46), 23);
        fine("until 24: all", x, x.reached(0, 0, 24, 46), 24);
        fine("from 2 on: all but one", x, x.reached(0, 2, 24, 46), 23);
    }

    // "Number k of OUT; NONE if there is none such."
    private static void numbersOfOut() {
        TimedNet x = netOf(3);
        x.line(0, 1, 1, 10, 5, 3, 5);
        x.line(1, 2, 1, 26, 5, 3, 5);
        due("empty", x.out(0), NONE);
        due("empty, -1", x.out(-1), NONE);
        x.way(0, 2, 16, 2);
        int[] want = {NONE, 0, 2, 1, 0, NONE};
        for (int k = -1; k <= 4; k++) {
            due("out(" + k + ")", x.out(k), want[k + 1]);
        }
        due("out(2399)", x.out(2399), NONE);
        due("out(2400)", x.out(2400), NONE);
        due("out of the greatest", x.out(Integer.MAX_VALUE), NONE);
        due("out of the least", x.out(Integer.MIN_VALUE), NONE);
        x.way(0, 1, 0, 2);
        outIs("a shorter way behind a longer one", x, 0, 0);
    }

    // "The k-th BEST PAIR .. 7 there is none such": numbered from 0 on, as all else.
    private static void numbersOfPairs() {
        TimedNet x = netOf(2);
        refused("no line", x, x.pair(0, 1, 0, 0, true), 7);
        x.line(0, 1, 2, 10, 5, 60, 0);
        fine("60", x, x.pairs(0, 1, 1), 60);
        refused("-1", x, x.pair(0, 1, 1, -1, true), 7);
        fine("0", x, x.pair(0, 1, 1, 0, true), 15);
        fine("59", x, x.pair(0, 1, 1, 59, false), 69);
        refused("60", x, x.pair(0, 1, 1, 60, false), 7);
        refused("the greatest", x, x.pair(0, 1, 1, Integer.MAX_VALUE, false), 7);
        refused("the least", x, x.pair(0, 1, 1, Integer.MIN_VALUE, false), 7);
    }

    // "Of a LINE, what 0: from .. 7: whether it is STRUCK (1, 0)"
    private static void whatIsTold() {
        TimedNet x = netOf(2);
        x.line(1, 0, 1, 5000, 500, 60, 500);
        int[] want = {1, 0, 1, 5000, 500, 60, 500, 0};
        refused("what -1", x, x.told(0, -1), 2);
        for (int what = 0; what < 8; what++) {
            fine("what " + what, x, x.told(0, what), want[what]);
        }
        refused("what 8", x, x.told(0, 8), 2);
        x.delay(0, 0, 9);
        fine("LEAVES is without DELAYS", x, x.told(0, 3), 5000);
        x.strike(0);
        fine("struck", x, x.told(0, 7), 1);
        fine("RUNS, STRUCK or not", x, x.told(0, 5), 60);
    }

    // "Of a RUN AS OF v, what 0 .. 2"
    private static void whatIsToldOfRuns() {
        TimedNet x = netOf(2);
        once(x, 0, 1, 0, 1);
        refused("what -1", x, x.run(0, 0, 1, -1), 2);
        fine("leaves at 0", x, x.run(0, 0, 1, 0), 0);
        fine("comes at 1", x, x.run(0, 0, 1, 1), 1);
        fine("stands", x, x.run(0, 0, 1, 2), 1);
        refused("what 3", x, x.run(0, 0, 1, 3), 2);
    }

    // "FIRST, if a LINE were STRUCK now, the net AS OF all CHANGES": all its RUNS, and it alone.
    private static void withoutALine() {
        TimedNet x = netOf(2);
        x.line(0, 1, 1, 10, 5, 2, 100);
        once(x, 0, 1, 50, 5);
        fine("without 0", x, x.without(0, 1, 0, 0), 55);
        fine("without 0, from 50", x, x.without(0, 1, 50, 0), 55);
        refused("without 0, from 51", x, x.without(0, 1, 51, 0), 5);
        fine("without 1", x, x.without(0, 1, 0, 1), 15);
        fine("without 1, from 51", x, x.without(0, 1, 51, 1), 115);
        refused("without -1", x, x.without(0, 1, 0, -1), 1);
        refused("without 2", x, x.without(0, 1, 0, 2), 1);
        fine("nothing was struck", x, x.first(0, 1, 0, 2), 15);
        x.strike(1);
        fine("without one that is STRUCK", x, x.without(0, 1, 0, 1), 15);
        refused("without the other one, too", x, x.without(0, 1, 0, 0), 5);
    }

    // "The LINE without which FIRST is latest (none at all: later than any) .., of several the least"
    private static void weakestWithNoneAtAll() {
        TimedNet x = netOf(3);
        once(x, 0, 1, 4400, 99);
        x.line(1, 2, 1, 4499, 1, 2, 500);
        fine("none without either: the least", x, x.weakest(0, 2, 0), 0);
        once(x, 0, 1, 4600, 399);
        fine("5000 without 0", x, x.without(0, 2, 0, 0), 5000);
        refused("none without 1", x, x.without(0, 2, 0, 1), 5);
        fine("none is later than 5000", x, x.weakest(0, 2, 0), 1);
        once(x, 1, 2, 4999, 1);
        fine("5000 without either: the least", x, x.weakest(0, 2, 0), 0);
        once(x, 0, 1, 4400, 99);
        fine("4500 without 0, 5000 without 1", x, x.weakest(0, 2, 0), 1);
        refused("no way", x, x.weakest(0, 2, 4601), 5);
        fine("a line that is not on the WAY is not looked at", x, x.weakest(0, 1, 4401), 2);
    }

    // "An object is used for at most 512 calls": the last of them is answered as the others are.
    private static void theLastPromisedCall() {
        TimedNet x = netOf(2);
        once(x, 0, 1, 10, 5);
        for (int i = 0; i < 254; i++) {
            x.delay(0, 0, i);
            x.undo();
        }
        due("call 512", x.first(0, 1, 0, 1), 15);
        TimedNet y = netOf399Changes();
        for (int i = 0; i < 55; i++) {
            y.delay(0, 0, 400);
            y.undo();
        }
        due("call 512 of a long run", y.first(0, 1, 0, 399), 400);
    }
}
