import java.util.ArrayList;
import java.util.Comparator;
import java.util.List;
import java.util.Random;
import java.util.TreeSet;

/**
 * Long runs of random calls, each answer and status held against a model that lists ways and reads every
 * answer off that list, as the document defines it.
 */
public final class NaiveNetTest {
    record Run(int line, int number, int from, int to, int leaves, int comes, boolean stands) { }

    /** A WAY in its order. */
    record Way(List<Run> runs) {
        int leaves() {
            return runs.get(0).leaves();
        }

        int comes() {
            return runs.get(runs.size() - 1).comes();
        }

        int to() {
            return runs.get(runs.size() - 1).to();
        }

        Way and(Run run) {
            List<Run> longer = new ArrayList<>(runs);
            longer.add(run);
            return new Way(longer);
        }
    }

    private static final Comparator<Way> TOLD_FIRST = (one, other) -> {
        if (one.runs().size() != other.runs().size()) {
            return Integer.compare(one.runs().size(), other.runs().size());
        }
        for (int i = one.runs().size() - 1; i >= 0; i--) {
            Run left = one.runs().get(i);
            Run right = other.runs().get(i);
            if (left.line() != right.line()) {
                return Integer.compare(left.line(), right.line());
            }
            if (left.number() != right.number()) {
                return Integer.compare(left.number(), right.number());
            }
        }
        return 0;
    };

    /** The document's words as plain as can be; all == false lists only the best way of each two ends. */
    static final class Model {
        private final boolean all;
        private final List<int[]> nodes = new ArrayList<>();
        private final List<int[]> log = new ArrayList<>();
        final List<Integer> out = new ArrayList<>();
        int status = 0;

        Model(boolean all) {
            this.all = all;
        }

        private int no(int fault) {
            status = fault;
            return -1;
        }

        private int yes(int value) {
            status = 0;
            return value;
        }

        private List<int[]> lines(int v) {
            List<int[]> found = new ArrayList<>();
            for (int[] change : log.subList(0, v)) {
                if (change[0] == 0) {
                    found.add(change);
                }
            }
            return found;
        }

        private boolean isStruck(int line, int v) {
            for (int[] change : log.subList(0, v)) {
                if (change[0] == 1 && change[1] == line) {
                    return true;
                }
            }
            return false;
        }

        private boolean isClosed(int node, int tick, int v) {
            for (int[] change : log.subList(0, v)) {
                if (change[0] == 3 && change[1] == node && change[2] <= tick && tick <= change[3]) {
                    return true;
                }
            }
            return false;
        }

        private int delayOf(int line, int number, int v) {
            int ticks = 0;
            for (int[] change : log.subList(0, v)) {
                if (change[0] == 2 && change[1] == line && change[2] == number) {
                    ticks = change[3];
                }
            }
            return ticks;
        }

        private List<Run> runs(int v, int skip) {
            List<Run> found = new ArrayList<>();
            List<int[]> lines = lines(v);
            for (int line = 0; line < lines.size(); line++) {
                int[] told = lines.get(line);
                for (int number = 0; number < told[6]; number++) {
                    int later = told[3] == 1 ? number * told[7] : number;
                    int leaves = told[4] + later + delayOf(line, number, v);
                    int comes = leaves + told[5];
                    boolean stands = line != skip && !isStruck(line, v) && leaves <= 5000 && comes <= 5000
                            && !isClosed(told[1], leaves, v) && !isClosed(told[2], comes, v);
                    found.add(new Run(line, number, told[1], told[2], leaves, comes, stands));
                }
            }
            return found;
        }

        private List<Run> standing(int v, int skip) {
            List<Run> found = new ArrayList<>(runs(v, skip));
            found.removeIf(run -> !run.stands());
            return found;
        }

        private boolean goesOn(Run run, Run next) {
            int wait = next.leaves() - run.comes();
            int[] node = nodes.get(run.to());
            return run.to() == next.from() && wait >= node[0] && (node[1] == -1 || wait <= node[1]);
        }

        private List<Way> waysFrom(int a, int tick, int v, int skip) {
            List<Run> standing = standing(v, skip);
            standing.sort(Comparator.comparingInt(Run::leaves));
            List<Way> found = new ArrayList<>();
            for (Run run : standing) {
                if (run.from() == a && run.leaves() >= tick) {
                    if (all) {
                        lengthen(new Way(List.of(run)), standing, found);
                    } else {
                        bestBehind(run, standing, found);
                    }
                }
            }
            return found;
        }

        private void lengthen(Way way, List<Run> standing, List<Way> found) {
            found.add(way);
            for (Run next : standing) {
                if (goesOn(way.runs().get(way.runs().size() - 1), next)) {
                    lengthen(way.and(next), standing, found);
                }
            }
        }

        private void bestBehind(Run start, List<Run> standing, List<Way> found) {
            List<Way> mine = new ArrayList<>();
            mine.add(new Way(List.of(start)));
            for (Run next : standing) {
                Way best = null;
                for (Way way : mine) {
                    if (goesOn(way.runs().get(way.runs().size() - 1), next)
                            && (best == null || TOLD_FIRST.compare(way, best) < 0)) {
                        best = way;
                    }
                }
                if (best != null) {
                    mine.add(best.and(next));
                }
            }
            found.addAll(mine);
        }

        private List<Way> ways(int a, int b, int[] ticks, int v, int skip) {
            List<Way> found = waysFrom(a, ticks[0], v, skip);
            found.removeIf(way -> way.to() != b || way.comes() > ticks[1]);
            return found;
        }

        private boolean isNode(int n) {
            return n >= 0 && n < nodes.size();
        }

        private static boolean isTick(int n) {
            return n >= 0 && n <= 5000;
        }

        private int fault(int a, int b, int from, int to, int v) {
            if (!isNode(a) || !isNode(b) || a == b) {
                return 1;
            }
            if (!isTick(from) || !isTick(to)) {
                return 2;
            }
            return v < 0 || v > log.size() ? 6 : 0;
        }

        private static boolean badWaits(int change, int longest) {
            return change < 0 || change > 200 || longest < -1 || longest > 5000
                    || (longest != -1 && longest < change);
        }

        private int ask(int what, int[] g) {
            switch (what) {
                case 0: return node(g);
                case 1: return waits(g);
                case 2: return line(g);
                case 3: return strike(g);
                case 4: return delay(g);
                case 5: return close(g);
                case 6: return yes(log.size());
                case 7: return undo();
                case 8: return told(g);
                case 9: return run(g);
                case 10: return first(g);
                case 11: return last(g);
                case 12: return quickest(g);
                case 13: return fewest(g);
                case 14: return way(g);
                case 15: return g[0] >= 0 && g[0] < out.size() ? out.get(g[0]) : -1;
                case 16: return pairs(g);
                case 17: return pair(g);
                case 18: return reached(g);
                case 19: return isReached(g);
                case 20: return without(g);
                case 21: return weakest(g);
                case 22: return g[0] < 0 || g[0] > log.size() ? no(6) : yes(standing(g[0], -1).size());
                default: return status;
            }
        }

        private int node(int[] g) {
            if (badWaits(g[0], g[1])) {
                return no(2);
            }
            if (nodes.size() == 24) {
                return no(3);
            }
            nodes.add(new int[] {g[0], g[1]});
            return yes(nodes.size() - 1);
        }

        private int waits(int[] g) {
            if (!isNode(g[0])) {
                return no(1) + 1;
            }
            if (badWaits(g[1], g[2])) {
                return no(2) + 1;
            }
            nodes.set(g[0], new int[] {g[1], g[2]});
            return yes(1);
        }

        private int line(int[] g) {
            if (!isNode(g[0]) || !isNode(g[1]) || g[0] == g[1]) {
                return no(1);
            }
            boolean bad = g[2] < 0 || g[2] > 2 || !isTick(g[3]) || g[4] < 1 || g[4] > 500
                    || (g[2] != 0 && (g[5] < 2 || g[5] > 60)) || (g[2] == 1 && (g[6] < 1 || g[6] > 500));
            if (bad) {
                return no(2);
            }
            int runs = g[2] == 0 ? 1 : g[5];
            if (lines(log.size()).size() == 100 || runs(log.size(), -1).size() + runs > 1200
                    || log.size() == 400) {
                return no(3);
            }
            log.add(new int[] {0, g[0], g[1], g[2], g[3], g[4], runs, g[2] == 1 ? g[6] : 0});
            return yes(lines(log.size()).size() - 1);
        }

        private int strike(int[] g) {
            if (g[0] < 0 || g[0] >= lines(log.size()).size()) {
                return no(1) + 1;
            }
            if (log.size() == 400) {
                return no(3) + 1;
            }
            if (isStruck(g[0], log.size())) {
                return no(4) + 1;
            }
            log.add(new int[] {1, g[0]});
            return yes(1);
        }

        private int delay(int[] g) {
            List<int[]> lines = lines(log.size());
            if (g[0] < 0 || g[0] >= lines.size() || g[1] < 0 || g[1] >= lines.get(g[0])[6]) {
                return no(1) + 1;
            }
            if (g[2] < 0 || g[2] > 500) {
                return no(2) + 1;
            }
            if (log.size() == 400) {
                return no(3) + 1;
            }
            if (isStruck(g[0], log.size())) {
                return no(4) + 1;
            }
            log.add(new int[] {2, g[0], g[1], g[2]});
            return yes(1);
        }

        private int close(int[] g) {
            if (!isNode(g[0])) {
                return no(1) + 1;
            }
            if (!isTick(g[1]) || !isTick(g[2]) || g[1] > g[2]) {
                return no(2) + 1;
            }
            int spans = 0;
            for (int[] change : log) {
                spans += change[0] == 3 ? 1 : 0;
            }
            if (spans == 60 || log.size() == 400) {
                return no(3) + 1;
            }
            log.add(new int[] {3, g[0], g[1], g[2]});
            return yes(1);
        }

        private int undo() {
            if (log.isEmpty()) {
                return no(6) + 1;
            }
            log.remove(log.size() - 1);
            return yes(1);
        }

        private int told(int[] g) {
            List<int[]> lines = lines(log.size());
            if (g[0] < 0 || g[0] >= lines.size()) {
                return no(1);
            }
            if (g[1] < 0 || g[1] > 7) {
                return no(2);
            }
            return yes(g[1] < 7 ? lines.get(g[0])[g[1] + 1] : isStruck(g[0], log.size()) ? 1 : 0);
        }

        private int run(int[] g) {
            if (g[2] < 0 || g[2] > log.size()) {
                return no(6);
            }
            for (Run run : runs(g[2], -1)) {
                if (run.line() == g[0] && run.number() == g[1]) {
                    if (g[3] < 0 || g[3] > 2) {
                        return no(2);
                    }
                    return yes(g[3] == 0 ? run.leaves() : g[3] == 1 ? run.comes() : run.stands() ? 1 : 0);
                }
            }
            return no(1);
        }

        private static int firstOf(List<Way> ways) {
            int least = Integer.MAX_VALUE;
            for (Way way : ways) {
                least = Math.min(least, way.comes());
            }
            return least;
        }

        private int first(int[] g) {
            int fault = fault(g[0], g[1], g[2], g[2], g[3]);
            if (fault != 0) {
                return no(fault);
            }
            List<Way> ways = ways(g[0], g[1], new int[] {g[2], 5000}, g[3], -1);
            return ways.isEmpty() ? no(5) : yes(firstOf(ways));
        }

        private int last(int[] g) {
            int fault = fault(g[0], g[1], g[2], g[2], g[3]);
            if (fault != 0) {
                return no(fault);
            }
            int latest = -1;
            for (Way way : ways(g[0], g[1], new int[] {0, g[2]}, g[3], -1)) {
                latest = Math.max(latest, way.leaves());
            }
            return latest == -1 ? no(5) : yes(latest);
        }

        private int quickest(int[] g) {
            int fault = fault(g[0], g[1], g[2], g[3], g[4]);
            if (fault != 0) {
                return no(fault);
            }
            int least = Integer.MAX_VALUE;
            for (Way way : ways(g[0], g[1], new int[] {g[2], g[3]}, g[4], -1)) {
                least = Math.min(least, way.comes() - way.leaves());
            }
            return least == Integer.MAX_VALUE ? no(5) : yes(least);
        }

        private int fewest(int[] g) {
            int fault = fault(g[0], g[1], g[2], g[3], g[4]);
            if (fault != 0) {
                return no(fault);
            }
            int least = Integer.MAX_VALUE;
            for (Way way : ways(g[0], g[1], new int[] {g[2], g[3]}, g[4], -1)) {
                least = Math.min(least, way.runs().size());
            }
            return least == Integer.MAX_VALUE ? no(5) : yes(least);
        }

        private Way toldWay(int a, int b, int tick, int v) {
            List<Way> ways = ways(a, b, new int[] {tick, 5000}, v, -1);
            int first = firstOf(ways);
            ways.removeIf(way -> way.comes() != first);
            ways.sort(TOLD_FIRST);
            return ways.isEmpty() ? null : ways.get(0);
        }

        private int way(int[] g) {
            int fault = fault(g[0], g[1], g[2], g[2], g[3]);
            if (fault != 0) {
                return no(fault);
            }
            Way way = toldWay(g[0], g[1], g[2], g[3]);
            if (way == null) {
                return no(5);
            }
            out.clear();
            for (Run run : way.runs()) {
                out.add(run.line());
                out.add(run.number());
            }
            return yes(way.runs().size());
        }

        private List<int[]> bestPairs(int a, int b, int v) {
            List<Way> ways = ways(a, b, new int[] {0, 5000}, v, -1);
            TreeSet<int[]> best = new TreeSet<>(Comparator.comparingInt(pair -> pair[0]));
            for (Way way : ways) {
                boolean beaten = false;
                for (Way other : ways) {
                    beaten |= other.leaves() >= way.leaves() && other.comes() <= way.comes()
                            && (other.leaves() > way.leaves() || other.comes() < way.comes());
                }
                if (!beaten) {
                    best.add(new int[] {way.leaves(), way.comes()});
                }
            }
            return new ArrayList<>(best);
        }

        private int pairs(int[] g) {
            int fault = fault(g[0], g[1], 0, 0, g[2]);
            return fault != 0 ? no(fault) : yes(bestPairs(g[0], g[1], g[2]).size());
        }

        private int pair(int[] g) {
            int fault = fault(g[0], g[1], 0, 0, g[2]);
            if (fault != 0) {
                return no(fault);
            }
            List<int[]> best = bestPairs(g[0], g[1], g[2]);
            return g[3] < 0 || g[3] >= best.size() ? no(7) : yes(best.get(g[3])[g[4]]);
        }

        private TreeSet<Integer> reachedNodes(int a, int from, int to, int v) {
            TreeSet<Integer> found = new TreeSet<>();
            found.add(a);
            for (Way way : waysFrom(a, from, v, -1)) {
                if (way.comes() <= to) {
                    found.add(way.to());
                }
            }
            return found;
        }

        private int reached(int[] g) {
            if (!isNode(g[0])) {
                return no(1);
            }
            if (!isTick(g[1]) || !isTick(g[2])) {
                return no(2);
            }
            if (g[3] < 0 || g[3] > log.size()) {
                return no(6);
            }
            return yes(reachedNodes(g[0], g[1], g[2], g[3]).size());
        }

        private int isReached(int[] g) {
            if (!isNode(g[0]) || !isNode(g[1])) {
                return no(1);
            }
            if (!isTick(g[2]) || !isTick(g[3])) {
                return no(2);
            }
            if (g[4] < 0 || g[4] > log.size()) {
                return no(6);
            }
            return yes(reachedNodes(g[0], g[2], g[3], g[4]).contains(g[1]) ? 1 : 0);
        }

        private int without(int[] g) {
            if (g[3] < 0 || g[3] >= lines(log.size()).size()) {
                return no(1);
            }
            int fault = fault(g[0], g[1], g[2], g[2], log.size());
            if (fault != 0) {
                return no(fault);
            }
            List<Way> ways = ways(g[0], g[1], new int[] {g[2], 5000}, log.size(), g[3]);
            return ways.isEmpty() ? no(5) : yes(firstOf(ways));
        }

        private int weakest(int[] g) {
            int fault = fault(g[0], g[1], g[2], g[2], log.size());
            if (fault != 0) {
                return no(fault);
            }
            Way way = toldWay(g[0], g[1], g[2], log.size());
            if (way == null) {
                return no(5);
            }
            TreeSet<Integer> used = new TreeSet<>();
            for (Run run : way.runs()) {
                used.add(run.line());
            }
            int found = -1;
            int latest = -1;
            for (int line : used) {
                int coming = firstOf(ways(g[0], g[1], new int[] {g[2], 5000}, log.size(), line));
                if (coming > latest) {
                    latest = coming;
                    found = line;
                }
            }
            return yes(found);
        }
    }

    private static final String[] NAMES = {
        "node", "waits", "line", "strike", "delay", "close", "changes", "undo", "told", "run", "first", "last",
        "quickest", "fewest", "way", "out", "pairs", "pair", "reached", "isReached", "without", "weakest",
        "stand", "status"
    };

    /** Makes the calls of one run: nets on few ticks, so that many ways fit and many are alike. */
    static final class Maker {
        private final Random random;
        private final int nodes;
        private final int mostLines;
        private final int mostTimes;
        private final int ticks;
        private final int base;
        private final boolean isRing;

        Maker(long seed, int mostNodes, int mostLines, int mostTimes, int ticks) {
            this.random = new Random(seed);
            this.nodes = 2 + random.nextInt(mostNodes - 1);
            this.mostLines = mostLines;
            this.mostTimes = mostTimes;
            this.ticks = ticks;
            // Some nets lie at the end of time, where runs that come too late don't stand.
            this.base = random.nextInt(4) == 0 ? 5000 - ticks : 0;
            // In a ring ways are long, and come to nodes more than once.
            this.isRing = random.nextInt(3) != 0;
        }

        private int below(int bound) {
            return random.nextInt(Math.max(1, bound));
        }

        private boolean seldom() {
            return random.nextInt(40) == 0;
        }

        private int odd(int... numbers) {
            return numbers[random.nextInt(numbers.length)];
        }

        private int oneNode() {
            return seldom() ? odd(-1, nodes, 24, Integer.MIN_VALUE, Integer.MAX_VALUE) : below(nodes);
        }

        private int otherNode(int a) {
            int b = oneNode();
            return b == a && !seldom() ? (a + 1) % nodes : b;
        }

        private int tick() {
            return seldom() ? odd(-1, 5001, 0, 5000, Integer.MIN_VALUE, Integer.MAX_VALUE) : base + below(ticks + 1);
        }

        private int early() {
            return random.nextBoolean() ? tick() : base + below(3);
        }

        private int late() {
            return random.nextBoolean() ? tick() : odd(5000, Math.min(5000, base + 2 * ticks));
        }

        private int version(int all) {
            if (seldom()) {
                return odd(-1, all + 1, Integer.MIN_VALUE, Integer.MAX_VALUE);
            }
            return random.nextInt(3) == 0 ? below(all + 1) : all;
        }

        private int[] waits(boolean named) {
            int change = seldom() ? odd(-1, 200, 201) : below(4);
            int longest = seldom() ? odd(-2, change - 1, 5000, 5001) : random.nextInt(3) == 0 ? -1 : change + below(8);
            return named ? new int[] {oneNode(), change, longest} : new int[] {change, longest};
        }

        private int[] line() {
            int a = oneNode();
            int kind = seldom() ? odd(-1, 3) : below(3);
            int takes = seldom() ? odd(0, 1, 500, 501, -1) : 1 + below(6);
            int times = seldom() ? odd(1, 61, -1, 0) : 2 + below(mostTimes - 1);
            int period = seldom() ? odd(0, 501, -1) : 1 + below(6);
            int b = isRing && !seldom() ? Math.floorMod(a + 1, nodes) : otherNode(a);
            return new int[] {a, b, kind, tick(), takes, times, period};
        }

        int[] arguments(int what, int all, int lines) {
            int a = oneNode();
            int b = otherNode(a);
            int line = seldom() ? odd(-1, lines, 100) : below(lines);
            int run = seldom() ? odd(-1, 60) : below(mostTimes);
            switch (what) {
                case 0: return waits(false);
                case 1: return waits(true);
                case 2: return line();
                case 3: return new int[] {line};
                case 4: return delay(line, run);
                case 5: return closing(a);
                case 8: return new int[] {line, seldom() ? odd(-1, 8) : below(8)};
                case 9: return new int[] {line, run, version(all), seldom() ? odd(-1, 3) : below(3)};
                case 10: case 14: return new int[] {a, b, early(), version(all)};
                case 11: return new int[] {a, b, late(), version(all)};
                case 12: case 13: return new int[] {a, b, early(), late(), version(all)};
                case 15: return new int[] {seldom() ? odd(-1, 2400) : below(8)};
                case 16: return new int[] {a, b, version(all)};
                case 17: return new int[] {a, b, version(all), below(4) - (seldom() ? 1 : 0), below(2)};
                case 18: return new int[] {a, early(), late(), version(all)};
                case 19: return new int[] {a, random.nextInt(6) == 0 ? a : b, early(), late(), version(all)};
                case 20: return new int[] {a, b, early(), line};
                case 21: return new int[] {a, b, early()};
                case 22: return new int[] {version(all)};
                default: return new int[] {};
            }
        }

        private int[] delay(int line, int run) {
            int ticks = seldom() ? odd(-1, 500, 501) : below(9);
            return new int[] {line, random.nextBoolean() ? 0 : run, ticks};
        }

        private int[] closing(int a) {
            int from = tick();
            return new int[] {a, from, seldom() ? from - 1 : from + below(4)};
        }

        int nextCall(int calls, int lines) {
            if (calls < nodes) {
                return 0;
            }
            if (lines < mostLines && random.nextInt(calls < 4 * mostLines ? 2 : 6) == 0) {
                return 2;
            }
            int[] often = {1, 3, 4, 4, 4, 5, 7, 7, 8, 9, 15, 22, 6};
            if (random.nextInt(3) == 0) {
                int what = often[random.nextInt(often.length)];
                return what == 3 && random.nextInt(3) != 0 ? 9 : what;
            }
            return odd(10, 11, 12, 13, 14, 16, 17, 17, 18, 19, 20, 21);
        }
    }

    private static int wrong = 0;
    private static final int[] GOOD = new int[NAMES.length];

    private static void compare(long seed, int call, int what, int[] g, int[] got, int[] want) {
        if (got[0] != want[0] || got[1] != want[1]) {
            wrong++;
            if (wrong < 20) {
                System.out.println("seed " + seed + ", call " + call + ": " + NAMES[what]
                        + java.util.Arrays.toString(g) + " answered " + got[0] + ", status " + got[1]
                        + ", due is " + want[0] + ", status " + want[1]);
            }
        }
    }

    private static void compareOut(long seed, int call, Net x, Model model) {
        int[] none = {};
        for (int k = -1; k <= model.out.size() && x.callsLeft() > 0; k++) {
            int want = k >= 0 && k < model.out.size() ? model.out.get(k) : -1;
            compare(seed, call, 15, none, new int[] {x.ask("out", k), k}, new int[] {want, k});
        }
    }

    private static void ask(long seed, int call, Net x, Model model, int what, int... g) {
        int got = x.ask(NAMES[what], g);
        int want = model.ask(what, g);
        compare(seed, call, what, g, new int[] {got, x.ask("status")}, new int[] {want, model.status});
        if (model.status == 0) {
            GOOD[what]++;
        }
        if (what == 14 || what == 21) {
            compareOut(seed, call, x, model);
        }
    }

    private static void play(long seed, boolean all, int calls) {
        Maker maker = all ? new Maker(seed, 5, 7, 4, 24) : new Maker(seed, 8, 30, 12, 120);
        Net x = new Net();
        Model model = new Model(all);
        for (int call = 0; call < calls && x.callsLeft() > 1; call++) {
            int lines = model.lines(model.log.size()).size();
            int what = maker.nextCall(call, lines);
            ask(seed, call, x, model, what, maker.arguments(what, model.log.size(), lines));
        }
    }

    /** Fills a net with all that it can hold, then asks until no call is left. */
    private static void playFull(long seed) {
        Random random = new Random(seed);
        Net x = new Net();
        Model model = new Model(false);
        fill(random, x, model);
        for (int call = 424; x.callsLeft() > 1; call++) {
            int what = new int[] {10, 11, 12, 13, 14, 16, 17, 18, 19, 20, 21, 22, 9}[call % 13];
            int a = random.nextInt(24);
            int b = (a + 1 + random.nextInt(23)) % 24;
            int early = random.nextInt(2000);
            int late = 2500 + random.nextInt(2501);
            int v = 400 - random.nextInt(3) * random.nextInt(100);
            ask(seed, call, x, model, what, argumentsOfFull(what, new int[] {a, b, early, late, v}));
        }
    }

    private static void fill(Random random, Net x, Model model) {
        List<int[]> changes = new ArrayList<>();
        for (int i = 0; i < 24; i++) {
            changes.add(new int[] {0, random.nextInt(40), random.nextBoolean() ? -1 : 40 + random.nextInt(400)});
        }
        for (int i = 0; i < 100; i++) {
            int from = random.nextInt(24);
            int to = (from + 1 + random.nextInt(23)) % 24;
            changes.add(new int[] {2, from, to, 1 + i % 2, random.nextInt(4500), 1 + random.nextInt(500), 12,
                1 + random.nextInt(200)});
        }
        for (int i = 0; i < 300; i++) {
            int from = random.nextInt(4900);
            int[] closing = {5, random.nextInt(24), from, from + random.nextInt(100)};
            int[] delay = {4, random.nextInt(100), random.nextInt(12), random.nextInt(501)};
            changes.add(i % 5 == 0 ? closing : i > 290 ? new int[] {3, i - 290} : delay);
        }
        for (int[] change : changes) {
            int[] g = java.util.Arrays.copyOfRange(change, 1, change.length);
            compare(0, 0, change[0], g, new int[] {x.ask(NAMES[change[0]], g), 0},
                    new int[] {model.ask(change[0], g), model.status});
        }
    }

    private static int[] argumentsOfFull(int what, int[] g) {
        switch (what) {
            case 9: return new int[] {g[2] % 100, g[3] % 12, g[4], g[1] % 3};
            case 11: return new int[] {g[0], g[1], g[3], g[4]};
            case 12: case 13: case 19: return new int[] {g[0], g[1], g[2], g[3], g[4]};
            case 16: return new int[] {g[0], g[1], g[4]};
            case 17: return new int[] {g[0], g[1], g[4], g[3] % 4, g[2] % 2};
            case 18: return new int[] {g[0], g[2], g[3], g[4]};
            case 20: return new int[] {g[0], g[1], g[2], g[3] % 100};
            case 21: return new int[] {g[0], g[1], g[2]};
            case 22: return new int[] {g[4]};
            default: return new int[] {g[0], g[1], g[2], g[4]};
        }
    }

    public static void main(String[] args) {
        int small = args.length > 0 ? Integer.parseInt(args[0]) : 400;
        int large = args.length > 1 ? Integer.parseInt(args[1]) : 12;
        int full = args.length > 2 ? Integer.parseInt(args[2]) : 3;
        for (long seed = 1; seed <= small; seed++) {
            play(seed, true, 200);
        }
        for (long seed = 1; seed <= large; seed++) {
            play(-seed, false, Net.MOST_CALLS);
        }
        for (long seed = 1; seed <= full; seed++) {
            playFull(seed);
        }
        for (int what = 0; what < NAMES.length - 1; what++) {
            if (GOOD[what] < 20) {
                wrong++;
                System.out.println(NAMES[what] + " was hardly ever answered: " + GOOD[what]);
            }
        }
        System.out.println(wrong == 0 ? "all answers are as the model's" : wrong + " answers are not");
        if (wrong != 0) {
            System.exit(1);
        }
    }
}
