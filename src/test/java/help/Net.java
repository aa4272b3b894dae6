import java.util.List;

/** A net whose calls are asked by name and counted, so that no test leans on more than the document promises. */
final class Net {
    static final int MOST_CALLS = 512;
    static final List<String> NAMES = List.of(
            "status", "node", "waits", "line", "strike", "delay", "close", "changes", "undo", "told", "run",
            "first", "last", "quickest", "fewest", "way", "out", "pairs", "pair", "reached", "isReached",
            "without", "weakest", "stand");
    private static final List<String> TRUE_OR_FALSE = List.of("waits", "strike", "delay", "close", "undo");

    private final TimedNet net = new TimedNet();
    private int used = 0;

    int callsLeft() {
        return MOST_CALLS - used;
    }

    /** What a refused call answers: NONE, or false as 0. */
    static int noAnswer(String name) {
        return TRUE_OR_FALSE.contains(name) ? 0 : TimedNet.NONE;
    }

    int ask(String name, int... g) {
        used++;
        if (used > MOST_CALLS) {
            throw new IllegalStateException("call " + used + " of one object: what it answers is free");
        }
        return TRUE_OR_FALSE.contains(name) ? (agrees(name, g) ? 1 : 0) : tells(name, g);
    }

    private boolean agrees(String name, int[] g) {
        switch (name) {
            case "waits": return net.waits(g[0], g[1], g[2]);
            case "strike": return net.strike(g[0]);
            case "delay": return net.delay(g[0], g[1], g[2]);
            case "close": return net.close(g[0], g[1], g[2]);
            case "undo": return net.undo();
            default: throw new IllegalArgumentException(name);
        }
    }

    private int tells(String name, int[] g) {
        switch (name) {
            case "status": return net.status();
            case "node": return net.node(g[0], g[1]);
            case "line": return net.line(g[0], g[1], g[2], g[3], g[4], g[5], g[6]);
            case "changes": return net.changes();
            case "told": return net.told(g[0], g[1]);
            case "run": return net.run(g[0], g[1], g[2], g[3]);
            case "first": return net.first(g[0], g[1], g[2], g[3]);
            case "last": return net.last(g[0], g[1], g[2], g[3]);
            case "quickest": return net.quickest(g[0], g[1], g[2], g[3], g[4]);
            case "fewest": return net.fewest(g[0], g[1], g[2], g[3], g[4]);
            case "way": return net.way(g[0], g[1], g[2], g[3]);
            case "out": return net.out(g[0]);
            case "pairs": return net.pairs(g[0], g[1], g[2]);
            case "pair": return net.pair(g[0], g[1], g[2], g[3], g[4] == 1);
            case "reached": return net.reached(g[0], g[1], g[2], g[3]);
            case "isReached": return net.isReached(g[0], g[1], g[2], g[3], g[4]);
            case "without": return net.without(g[0], g[1], g[2], g[3]);
            case "weakest": return net.weakest(g[0], g[1], g[2]);
            case "stand": return net.stand(g[0]);
            default: throw new IllegalArgumentException(name);
        }
    }
}
