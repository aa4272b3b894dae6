/** What tests have in common: to hold an answer against the one that is due, and to make small nets. */
class Checks {
    static final int NONE = TimedNet.NONE;
    private static int wrong = 0;

    static void due(String what, long got, long want) {
        if (got != want) {
            wrong++;
            System.out.println(what + " answered " + got + ", due is " + want);
        }
    }

    static void due(String what, boolean got, boolean want) {
        due(what, got ? 1 : 0, want ? 1 : 0);
    }

    static void refused(String what, TimedNet x, int got, int status) {
        due(what, got, NONE);
        due(what + ", status", x.status(), status);
    }

    static void refused(String what, TimedNet x, boolean got, int status) {
        due(what, got, false);
        due(what + ", status", x.status(), status);
    }

    static void fine(String what, TimedNet x, int got, int want) {
        due(what, got, want);
        due(what + ", status", x.status(), 0);
    }

    static void fine(String what, TimedNet x, boolean got) {
        due(what, got, true);
        due(what + ", status", x.status(), 0);
    }

    static void outIs(String what, TimedNet x, int... want) {
        for (int k = 0; k < want.length; k++) {
            due(what + ", out(" + k + ")", x.out(k), want[k]);
        }
        due(what + ", behind its end", x.out(want.length), NONE);
    }

    static TimedNet netOf(int nodes) {
        TimedNet x = new TimedNet();
        for (int i = 0; i < nodes; i++) {
            x.node(0, NONE);
        }
        return x;
    }

    static int once(TimedNet x, int from, int to, int leaves, int takes) {
        return x.line(from, to, 0, leaves, takes, 0, 0);
    }

    static void end(String whenFine) {
        System.out.println(wrong == 0 ? whenFine : wrong + " answers are not as due");
        if (wrong != 0) {
            System.exit(1);
        }
    }
}
