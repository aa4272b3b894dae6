/** A net whose lines stand only at times, as it is now and as it was behind any number of changes. */
public final class TimedNet {
    public static final int NONE = -1;

    private static final int LAST_TICK = 5000;
    private static final int TICKS = LAST_TICK + 1;
    private static final int NEVER = LAST_TICK + 1;
    private static final int MOST_NODES = 24;
    private static final int MOST_LEAST_WAIT = 200;
    private static final int MOST_LINES = 100;
    private static final int MOST_RUNS = 1200;
    private static final int MOST_TAKES = 500;
    private static final int LEAST_TIMES = 2;
    private static final int MOST_TIMES = 60;
    private static final int MOST_PERIOD = 500;
    private static final int MOST_DELAY = 500;
    private static final int MOST_CLOSINGS = 60;
    private static final int MOST_CHANGES = 400;

    private static final int ONCE = 0;
    private static final int AGAIN = 1;
    private static final int SPAN = 2;

    private static final int FINE = 0;
    private static final int NO_SUCH_PART = 1;
    private static final int BAD_NUMBER = 2;
    private static final int TOO_MANY = 3;
    private static final int STRUCK_ALREADY = 4;
    private static final int NO_WAY = 5;
    private static final int NO_SUCH_CHANGE = 6;
    private static final int NONE_SUCH = 7;

    private static final int PUT = 0;
    private static final int STRIKE = 1;
    private static final int DELAY = 2;
    private static final int CLOSE = 3;

    private final Nodes nodes = new Nodes();
    private final Lines lines = new Lines();
    private final Log log = new Log();
    private final View view = new View(lines, log);
    private final Search search = new Search(nodes, view);
    private final int[] outRow = new int[2 * MOST_RUNS];
    // weakest() needs the WAY too, but must leave OUT as it is.
    private final int[] spareRow = new int[2 * MOST_RUNS];
    private int outSize = 0;
    private int latestStatus = FINE;

    public TimedNet() {
    }

    public int status() {
        return latestStatus;
    }

    public int node(int change, int longest) {
        if (!areWaits(change, longest)) {
            return refuse(BAD_NUMBER);
        }
        if (nodes.size >= MOST_NODES) {
            return refuse(TOO_MANY);
        }
        return answer(nodes.add(change, longest));
    }

    public boolean waits(int node, int change, int longest) {
        if (!isNode(node)) {
            return deny(NO_SUCH_PART);
        }
        if (!areWaits(change, longest)) {
            return deny(BAD_NUMBER);
        }
        nodes.set(node, change, longest);
        return agree();
    }

    public int line(int from, int to, int kind, int leaves, int takes, int times, int period) {
        if (!areEnds(from, to)) {
            return refuse(NO_SUCH_PART);
        }
        if (!isBetween(leaves, 0, LAST_TICK) || !isBetween(takes, 1, MOST_TAKES)
                || !isPlan(kind, times, period)) {
            return refuse(BAD_NUMBER);
        }
        int runs = kind == ONCE ? 1 : times;
        if (lines.size >= MOST_LINES || lines.allRuns + runs > MOST_RUNS || log.isFull()) {
            return refuse(TOO_MANY);
        }
        int number = lines.add(from, to, kind, leaves, takes, runs, kind == AGAIN ? period : 0);
        log.add(PUT, number, 0, 0);
        return answer(number);
    }

    public boolean strike(int line) {
        if (!isLine(line)) {
            return deny(NO_SUCH_PART);
        }
        if (log.isFull()) {
            return deny(TOO_MANY);
        }
        if (lines.struck[line]) {
            return deny(STRUCK_ALREADY);
        }
        lines.struck[line] = true;
        log.add(STRIKE, line, 0, 0);
        return agree();
    }

    public boolean delay(int line, int run, int ticks) {
        if (!isLine(line) || !isBetween(run, 0, lines.runs[line] - 1)) {
            return deny(NO_SUCH_PART);
        }
        if (!isBetween(ticks, 0, MOST_DELAY)) {
            return deny(BAD_NUMBER);
        }
        if (log.isFull()) {
            return deny(TOO_MANY);
        }
        if (lines.struck[line]) {
            return deny(STRUCK_ALREADY);
        }
        log.add(DELAY, lines.base[line] + run, ticks, 0);
        return agree();
    }

    public boolean close(int node, int from, int to) {
        if (!isNode(node)) {
            return deny(NO_SUCH_PART);
        }
        if (!isTick(from) || !isTick(to) || from > to) {
            return deny(BAD_NUMBER);
        }
        if (log.closings >= MOST_CLOSINGS || log.isFull()) {
            return deny(TOO_MANY);
        }
        log.add(CLOSE, node, from, to);
        return agree();
    }

    public int changes() {
        return answer(log.size);
    }

    public boolean undo() {
        if (log.size == 0) {
            return deny(NO_SUCH_CHANGE);
        }
        int kind = log.kinds[log.size - 1];
        int subject = log.subjects[log.size - 1];
        log.removeLatest();
        if (kind == PUT) {
            lines.removeLatest();
        } else if (kind == STRIKE) {
            lines.struck[subject] = false;
        }
        view.forget();
        return agree();
    }

    public int told(int line, int what) {
        if (!isLine(line)) {
            return refuse(NO_SUCH_PART);
        }
        if (!isBetween(what, 0, 7)) {
            return refuse(BAD_NUMBER);
        }
        return answer(lines.tell(line, what));
    }

    public int run(int line, int run, int v, int what) {
        if (!isChange(v)) {
            return refuse(NO_SUCH_CHANGE);
        }
        view.show(v);
        if (!isBetween(line, 0, view.lineCount - 1) || !isBetween(run, 0, lines.runs[line] - 1)) {
            return refuse(NO_SUCH_PART);
        }
        if (!isBetween(what, 0, 2)) {
            return refuse(BAD_NUMBER);
        }
        return answer(view.tell(lines.base[line] + run, what));
    }

    public int first(int a, int b, int tick, int v) {
        int fault = wayFault(a, b, tick, tick, v);
        if (fault != FINE) {
            return refuse(fault);
        }
        explore(a, tick, v, false);
        return answerOfWay(search.firstComing(b));
    }

    public int last(int a, int b, int tick, int v) {
        int fault = wayFault(a, b, tick, tick, v);
        if (fault != FINE) {
            return refuse(fault);
        }
        explore(a, 0, v, false);
        return answerOfWay(search.lastLeaving(b, tick));
    }

    public int quickest(int a, int b, int from, int to, int v) {
        int fault = wayFault(a, b, from, to, v);
        if (fault != FINE) {
            return refuse(fault);
        }
        explore(a, from, v, false);
        return answerOfWay(search.leastTicks(b, to));
    }

    public int fewest(int a, int b, int from, int to, int v) {
        int fault = wayFault(a, b, from, to, v);
        if (fault != FINE) {
            return refuse(fault);
        }
        explore(a, from, v, true);
        return answerOfWay(search.leastRuns(b, to));
    }

    public int way(int a, int b, int tick, int v) {
        int fault = wayFault(a, b, tick, tick, v);
        if (fault != FINE) {
            return refuse(fault);
        }
        explore(a, tick, v, true);
        int runs = search.trace(b, outRow);
        if (runs != NONE) {
            outSize = 2 * runs;
        }
        return answerOfWay(runs);
    }

    public int out(int k) {
        return isBetween(k, 0, outSize - 1) ? outRow[k] : NONE;
    }

    public int pairs(int a, int b, int v) {
        int fault = wayFault(a, b, 0, 0, v);
        if (fault != FINE) {
            return refuse(fault);
        }
        explore(a, 0, v, false);
        return answer(search.findBestPairs(b));
    }

    public int pair(int a, int b, int v, int k, boolean come) {
        int fault = wayFault(a, b, 0, 0, v);
        if (fault != FINE) {
            return refuse(fault);
        }
        explore(a, 0, v, false);
        if (!isBetween(k, 0, search.findBestPairs(b) - 1)) {
            return refuse(NONE_SUCH);
        }
        return answer(come ? search.pairComing(k) : search.pairLeaving(k));
    }

    public int reached(int a, int from, int to, int v) {
        int fault = reachFault(a, a, from, to, v);
        if (fault != FINE) {
            return refuse(fault);
        }
        explore(a, from, v, false);
        int count = 0;
        for (int b = 0; b < nodes.size; b++) {
            if (isFound(a, b, to)) {
                count++;
            }
        }
        return answer(count);
    }

    public int isReached(int a, int b, int from, int to, int v) {
        int fault = reachFault(a, b, from, to, v);
        if (fault != FINE) {
            return refuse(fault);
        }
        explore(a, from, v, false);
        return answer(isFound(a, b, to) ? 1 : 0);
    }

    public int without(int a, int b, int tick, int line) {
        if (!areEnds(a, b) || !isLine(line)) {
            return refuse(NO_SUCH_PART);
        }
        if (!isTick(tick)) {
            return refuse(BAD_NUMBER);
        }
        int coming = comingWithout(a, b, tick, line);
        return coming == NEVER ? refuse(NO_WAY) : answer(coming);
    }

    public int weakest(int a, int b, int tick) {
        int fault = wayFault(a, b, tick, tick, log.size);
        if (fault != FINE) {
            return refuse(fault);
        }
        explore(a, tick, log.size, true);
        int runs = search.trace(b, spareRow);
        int found = NONE;
        int latest = NONE;
        for (int line = 0; line < lines.size; line++) {
            int coming = isInSpareRow(line, runs) ? comingWithout(a, b, tick, line) : NONE;
            if (coming > latest) {
                latest = coming;
                found = line;
            }
        }
        return answerOfWay(found);
    }

    public int stand(int v) {
        if (!isChange(v)) {
            return refuse(NO_SUCH_CHANGE);
        }
        view.show(v);
        return answer(view.size);
    }

    private int answer(int value) {
        latestStatus = FINE;
        return value;
    }

    private int refuse(int fault) {
        latestStatus = fault;
        return NONE;
    }

    private int answerOfWay(int value) {
        return value == NONE ? refuse(NO_WAY) : answer(value);
    }

    private boolean agree() {
        latestStatus = FINE;
        return true;
    }

    private boolean deny(int fault) {
        latestStatus = fault;
        return false;
    }

    private void explore(int a, int tick, int v, boolean counting) {
        view.show(v);
        search.spread(a, tick, NONE, counting);
    }

    private boolean isFound(int a, int b, int until) {
        return a == b || search.isComing(b, until);
    }

    private int comingWithout(int a, int b, int tick, int line) {
        view.show(log.size);
        search.spread(a, tick, line, false);
        int coming = search.firstComing(b);
        return coming == NONE ? NEVER : coming;
    }

    private boolean isInSpareRow(int line, int runs) {
        for (int i = 0; i < runs; i++) {
            if (spareRow[2 * i] == line) {
                return true;
            }
        }
        return false;
    }

    // Whether there is a way (5) can only be asked of a net that there was, so 6 is asked here, ahead of it.
    private int wayFault(int a, int b, int from, int to, int v) {
        return areEnds(a, b) ? reachFault(a, b, from, to, v) : NO_SUCH_PART;
    }

    private int reachFault(int a, int b, int from, int to, int v) {
        if (!isNode(a) || !isNode(b)) {
            return NO_SUCH_PART;
        }
        if (!isTick(from) || !isTick(to)) {
            return BAD_NUMBER;
        }
        return isChange(v) ? FINE : NO_SUCH_CHANGE;
    }

    private boolean isNode(int number) {
        return isBetween(number, 0, nodes.size - 1);
    }

    private boolean areEnds(int a, int b) {
        return isNode(a) && isNode(b) && a != b;
    }

    private boolean isLine(int number) {
        return isBetween(number, 0, lines.size - 1);
    }

    private boolean isChange(int v) {
        return isBetween(v, 0, log.size);
    }

    private static boolean isBetween(int number, int least, int most) {
        return number >= least && number <= most;
    }

    private static boolean isTick(int number) {
        return isBetween(number, 0, LAST_TICK);
    }

    private static boolean areWaits(int change, int longest) {
        return isBetween(change, 0, MOST_LEAST_WAIT)
                && (longest == NONE || isBetween(longest, change, LAST_TICK));
    }

    private static boolean isPlan(int kind, int times, int period) {
        if (kind == ONCE) {
            return true;
        }
        if (kind != AGAIN && kind != SPAN) {
            return false;
        }
        return isBetween(times, LEAST_TIMES, MOST_TIMES)
                && (kind == SPAN || isBetween(period, 1, MOST_PERIOD));
    }

    /** The NODES with their waits as they are told latest. */
    private static final class Nodes {
        private final int[] least = new int[MOST_NODES];
        private final int[] longest = new int[MOST_NODES];
        private int size = 0;

        private int add(int leastWait, int longestWait) {
            set(size, leastWait, longestWait);
            size++;
            return size - 1;
        }

        private void set(int number, int leastWait, int longestWait) {
            least[number] = leastWait;
            longest[number] = longestWait;
        }

        private int latestComing(int number, int leaving) {
            return leaving - least[number];
        }

        private int soonestComing(int number, int leaving) {
            return longest[number] == NONE ? 0 : leaving - longest[number];
        }
    }

    /** All LINES that are put now; the RUNS of all of them have one numbering, in the order of the LINES. */
    private static final class Lines {
        private final int[] from = new int[MOST_LINES];
        private final int[] to = new int[MOST_LINES];
        private final int[] kind = new int[MOST_LINES];
        private final int[] leaves = new int[MOST_LINES];
        private final int[] takes = new int[MOST_LINES];
        private final int[] runs = new int[MOST_LINES];
        private final int[] period = new int[MOST_LINES];
        private final int[] base = new int[MOST_LINES];
        private final boolean[] struck = new boolean[MOST_LINES];
        private int size = 0;
        private int allRuns = 0;

        private int add(int start, int goal, int sort, int leaving, int ticks, int count, int gap) {
            int number = size;
            from[number] = start;
            to[number] = goal;
            kind[number] = sort;
            leaves[number] = leaving;
            takes[number] = ticks;
            runs[number] = count;
            period[number] = gap;
            base[number] = allRuns;
            struck[number] = false;
            size++;
            allRuns += count;
            return number;
        }

        private void removeLatest() {
            if (size > 0) {
                size--;
                allRuns -= runs[size];
            }
        }

        private int tell(int number, int what) {
            switch (what) {
                case 0:
                    return from[number];
                case 1:
                    return to[number];
                case 2:
                    return kind[number];
                case 3:
                    return leaves[number];
                case 4:
                    return takes[number];
                case 5:
                    return runs[number];
                case 6:
                    return period[number];
                default:
                    return struck[number] ? 1 : 0;
            }
        }

        private int plannedLeaving(int number, int place) {
            int gap = kind[number] == SPAN ? 1 : period[number];
            return leaves[number] + place * gap;
        }
    }

    /** The CHANGES in their order. The subject is a LINE (PUT, STRIKE), a RUN of all (DELAY) or a NODE (CLOSE). */
    private static final class Log {
        private final int[] kinds = new int[MOST_CHANGES];
        private final int[] subjects = new int[MOST_CHANGES];
        // Of a DELAY the first number is its ticks; of a CLOSE both are the span; else they are idle.
        private final int[] firsts = new int[MOST_CHANGES];
        private final int[] seconds = new int[MOST_CHANGES];
        private int size = 0;
        private int closings = 0;

        private boolean isFull() {
            return size >= MOST_CHANGES;
        }

        private void add(int kind, int subject, int from, int to) {
            kinds[size] = kind;
            subjects[size] = subject;
            firsts[size] = from;
            seconds[size] = to;
            size++;
            if (kind == CLOSE) {
                closings++;
            }
        }

        private void removeLatest() {
            if (size > 0) {
                size--;
                if (kinds[size] == CLOSE) {
                    closings--;
                }
            }
        }

        private boolean isClosing(int place, int node, int tick) {
            return subjects[place] == node && firsts[place] <= tick && tick <= seconds[place];
        }
    }

    /** The net AS OF some number of CHANGES: its RUNS, and those that STAND in the orders that a search needs. */
    private static final class View {
        private final Lines lines;
        private final Log log;
        private final Sorter sorter = new Sorter();
        private final boolean[] struck = new boolean[MOST_LINES];
        private final int[] closings = new int[MOST_CLOSINGS];
        private final int[] delays = new int[MOST_RUNS];
        private final int[] owners = new int[MOST_RUNS];
        private final int[] leavings = new int[MOST_RUNS];
        private final int[] comings = new int[MOST_RUNS];
        private final boolean[] stands = new boolean[MOST_RUNS];
        private final int[] byLeaving = new int[MOST_RUNS];
        // All that come to node 0 by their coming, then all that come to node 1, and so on.
        private final int[] byGoal = new int[MOST_RUNS];
        private final int[] goalKeys = new int[MOST_RUNS];
        private final int[] goalEnds = new int[MOST_NODES];
        private int closingCount = 0;
        private int lineCount = 0;
        private int size = 0;
        private int shown = NONE;

        private View(Lines lines, Log log) {
            this.lines = lines;
            this.log = log;
        }

        // More CHANGES behind those that are shown alter nothing here; only an undone one can.
        private void forget() {
            shown = NONE;
        }

        private void show(int v) {
            if (shown != v) {
                replay(v);
                timeRuns();
                orderRuns();
                shown = v;
            }
        }

        private void replay(int v) {
            for (int i = 0; i < lines.size; i++) {
                struck[i] = false;
            }
            for (int i = 0; i < lines.allRuns; i++) {
                delays[i] = 0;
            }
            lineCount = 0;
            closingCount = 0;
            for (int i = 0; i < v; i++) {
                repeat(i);
            }
        }

        private void repeat(int place) {
            int subject = log.subjects[place];
            switch (log.kinds[place]) {
                case PUT:
                    lineCount++;
                    break;
                case STRIKE:
                    struck[subject] = true;
                    break;
                case DELAY:
                    delays[subject] = log.firsts[place];
                    break;
                default:
                    closings[closingCount] = place;
                    closingCount++;
                    break;
            }
        }

        private void timeRuns() {
            size = 0;
            for (int line = 0; line < lineCount; line++) {
                for (int place = 0; place < lines.runs[line]; place++) {
                    timeRun(line, place);
                }
            }
        }

        private void timeRun(int line, int place) {
            int run = lines.base[line] + place;
            owners[run] = line;
            leavings[run] = lines.plannedLeaving(line, place) + delays[run];
            comings[run] = leavings[run] + lines.takes[line];
            stands[run] = !struck[line] && comings[run] <= LAST_TICK
                    && !isClosed(lines.from[line], leavings[run])
                    && !isClosed(lines.to[line], comings[run]);
            if (stands[run]) {
                goalKeys[run] = lines.to[line] * TICKS + comings[run];
                byLeaving[size] = run;
                byGoal[size] = run;
                size++;
            }
        }

        private boolean isClosed(int node, int tick) {
            for (int i = 0; i < closingCount; i++) {
                if (log.isClosing(closings[i], node, tick)) {
                    return true;
                }
            }
            return false;
        }

        private void orderRuns() {
            sorter.sort(byLeaving, size, leavings);
            sorter.sort(byGoal, size, goalKeys);
            int end = 0;
            for (int node = 0; node < MOST_NODES; node++) {
                while (end < size && goalOf(byGoal[end]) == node) {
                    end++;
                }
                goalEnds[node] = end;
            }
        }

        private int startOf(int run) {
            return lines.from[owners[run]];
        }

        private int goalOf(int run) {
            return lines.to[owners[run]];
        }

        private int placeOf(int run) {
            return run - lines.base[owners[run]];
        }

        private int goalBegin(int node) {
            return node == 0 ? 0 : goalEnds[node - 1];
        }

        private int tell(int run, int what) {
            if (what == 0) {
                return leavings[run];
            }
            if (what == 1) {
                return comings[run];
            }
            return stands[run] ? 1 : 0;
        }
    }

    /** Sorts by merging, so that many RUNS stay cheap and a few cost next to nothing. */
    private static final class Sorter {
        private final int[] spare = new int[MOST_RUNS];

        private void sort(int[] items, int size, int[] keys) {
            for (int width = 1; width < size; width *= 2) {
                for (int low = 0; low < size; low += 2 * width) {
                    int middle = Math.min(low + width, size);
                    merge(items, keys, low, middle, Math.min(middle + width, size));
                }
                for (int i = 0; i < size; i++) {
                    items[i] = spare[i];
                }
            }
        }

        private void merge(int[] items, int[] keys, int low, int middle, int high) {
            int left = low;
            int right = middle;
            for (int i = low; i < high; i++) {
                boolean takeLeft = right >= high
                        || (left < middle && keys[items[left]] <= keys[items[right]]);
                if (takeLeft) {
                    spare[i] = items[left];
                    left++;
                } else {
                    spare[i] = items[right];
                    right++;
                }
            }
        }
    }

    /**
     * Finds for each RUN that STANDS its worth among the ways that end with it: the latest LEAVING, or,
     * when counting, the fewest RUNS; NONE if no way ends with it.
     */
    private static final class Search {
        private final Nodes nodes;
        private final View view;
        private final int[] worth = new int[MOST_RUNS];
        // At each node a queue of the RUNS from which one may go on there, the best first and soonest to be
        // too old; it lies where the node's part of view.byGoal lies, as it never holds more.
        private final int[] queue = new int[MOST_RUNS];
        private final int[] heads = new int[MOST_NODES];
        private final int[] tails = new int[MOST_NODES];
        private final int[] nexts = new int[MOST_NODES];
        private final int[] pairEnds = new int[MOST_RUNS];
        private boolean isCounting = false;

        private Search(Nodes nodes, View view) {
            this.nodes = nodes;
            this.view = view;
        }

        // Each RUN takes a tick at least, so all that one can go on from left ahead of it and is done already.
        private void spread(int a, int tick, int skippedLine, boolean counting) {
            isCounting = counting;
            emptyQueues();
            for (int i = 0; i < view.size; i++) {
                int run = view.byLeaving[i];
                if (view.owners[run] == skippedLine) {
                    worth[run] = NONE;
                } else if (view.startOf(run) == a && view.leavings[run] >= tick) {
                    worth[run] = counting ? 1 : view.leavings[run];
                } else {
                    worth[run] = worthBehindOthers(run);
                }
            }
        }

        private void emptyQueues() {
            for (int node = 0; node < MOST_NODES; node++) {
                int begin = view.goalBegin(node);
                heads[node] = begin;
                tails[node] = begin;
                nexts[node] = begin;
            }
        }

        private int worthBehindOthers(int run) {
            int node = view.startOf(run);
            int leaving = view.leavings[run];
            takeIn(node, nodes.latestComing(node, leaving));
            dropOld(node, nodes.soonestComing(node, leaving));
            if (heads[node] >= tails[node]) {
                return NONE;
            }
            int best = worth[queue[heads[node]]];
            return isCounting ? best + 1 : best;
        }

        private void takeIn(int node, int latestComing) {
            int next = nexts[node];
            while (next < view.goalEnds[node] && view.comings[view.byGoal[next]] <= latestComing) {
                if (worth[view.byGoal[next]] != NONE) {
                    join(node, view.byGoal[next]);
                }
                next++;
            }
            nexts[node] = next;
        }

        // One that is no better and gets too old sooner will never be the best again.
        private void join(int node, int run) {
            int tail = tails[node];
            while (tail > heads[node] && !isBetter(worth[queue[tail - 1]], worth[run])) {
                tail--;
            }
            queue[tail] = run;
            tails[node] = tail + 1;
        }

        private void dropOld(int node, int soonestComing) {
            int head = heads[node];
            while (head < tails[node] && view.comings[queue[head]] < soonestComing) {
                head++;
            }
            heads[node] = head;
        }

        private boolean isBetter(int one, int other) {
            return isCounting ? one < other : one > other;
        }

        private int firstComing(int b) {
            for (int i = view.goalBegin(b); i < view.goalEnds[b]; i++) {
                if (worth[view.byGoal[i]] != NONE) {
                    return view.comings[view.byGoal[i]];
                }
            }
            return NONE;
        }

        private boolean isComing(int b, int until) {
            int coming = firstComing(b);
            return coming != NONE && coming <= until;
        }

        private boolean isEnd(int run, int until) {
            return worth[run] != NONE && view.comings[run] <= until;
        }

        private int lastLeaving(int b, int until) {
            int latest = NONE;
            for (int i = view.goalBegin(b); i < view.goalEnds[b]; i++) {
                int run = view.byGoal[i];
                if (isEnd(run, until)) {
                    latest = Math.max(latest, worth[run]);
                }
            }
            return latest;
        }

        private int leastTicks(int b, int until) {
            int least = NONE;
            for (int i = view.goalBegin(b); i < view.goalEnds[b]; i++) {
                int run = view.byGoal[i];
                int ticks = view.comings[run] - worth[run];
                if (isEnd(run, until) && (least == NONE || ticks < least)) {
                    least = ticks;
                }
            }
            return least;
        }

        private int leastRuns(int b, int until) {
            int least = NONE;
            for (int i = view.goalBegin(b); i < view.goalEnds[b]; i++) {
                int run = view.byGoal[i];
                if (isEnd(run, until) && (least == NONE || worth[run] < least)) {
                    least = worth[run];
                }
            }
            return least;
        }

        // By coming, each pair must leave later than all ahead of it; of like comings the latest leaving stays.
        private int findBestPairs(int b) {
            int count = 0;
            int latest = NONE;
            for (int i = view.goalBegin(b); i < view.goalEnds[b]; i++) {
                int run = view.byGoal[i];
                if (worth[run] > latest) {
                    latest = worth[run];
                    if (count > 0 && pairComing(count - 1) == view.comings[run]) {
                        count--;
                    }
                    pairEnds[count] = run;
                    count++;
                }
            }
            return count;
        }

        private int pairLeaving(int k) {
            return worth[pairEnds[k]];
        }

        private int pairComing(int k) {
            return view.comings[pairEnds[k]];
        }

        // Lesser numbers of RUNS over all LINES are lesser LINES and, of like ones, lesser numbers there.
        private int trace(int b, int[] row) {
            int run = lastOfWay(b);
            if (run == NONE) {
                return NONE;
            }
            int length = worth[run];
            for (int place = length - 1; place >= 0 && run != NONE; place--) {
                row[2 * place] = view.owners[run];
                row[2 * place + 1] = view.placeOf(run);
                run = oneAhead(run);
            }
            return length;
        }

        private int lastOfWay(int b) {
            int coming = firstComing(b);
            int found = NONE;
            for (int i = view.goalBegin(b); i < view.goalEnds[b]; i++) {
                int run = view.byGoal[i];
                if (isEnd(run, coming) && (found == NONE || isLesserEnd(run, found))) {
                    found = run;
                }
            }
            return found;
        }

        private boolean isLesserEnd(int run, int other) {
            return worth[run] < worth[other] || (worth[run] == worth[other] && run < other);
        }

        private int oneAhead(int run) {
            int node = view.startOf(run);
            int soonest = nodes.soonestComing(node, view.leavings[run]);
            int latest = nodes.latestComing(node, view.leavings[run]);
            int found = NONE;
            for (int i = view.goalBegin(node); i < view.goalEnds[node]; i++) {
                int other = view.byGoal[i];
                boolean fits = worth[other] == worth[run] - 1
                        && isBetween(view.comings[other], soonest, latest);
                if (fits && (found == NONE || other < found)) {
                    found = other;
                }
            }
            return found;
        }
    }
}
