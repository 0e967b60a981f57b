/** Promises 1 to 6: a new object, put, handler, clear, start and step. */
final class CallSentences {
    private static final int LEAST = Integer.MIN_VALUE;
    private static final int GREATEST = Integer.MAX_VALUE;
    /**
     * What each operation names, from the document: W, L, F, D, T registers, P a place, R a row's kind,
     * N a new thing's kind, K any kind, - what is not looked at.
     */
    private static final String[] NAMES = {
        "---", "W--", "L--", "WW-", "WWW", "WWW", "WWW", "WWW", "WWW", "LLL", "LLL", "LLL", "LLL",
        "LW-", "WL-", "FL-", "DL-", "LF-", "WD-", "DF-", "FD-", "FF-", "DD-", "FFF", "DDD", "WWW", "WDD",
        "P--", "WP-", "P--", "---", "TRW", "TWW", "TNW", "TT-", "T--", "WTT", "WTK", "WT-",
        "WTW", "WTW", "WTW", "WTW", "WTW", "LTW", "FTW", "DTW", "TTW", "TTW",
        "WTW", "WTW", "WTW", "WTW", "WTW", "LTW", "FTW", "DTW", "TTW", "TTW",
        "WT-", "WT-", "LT-", "LT-", "TT-", "TT-", "WTW", "WTW",
        "TWT", "T--", "T--", "WT-", "TT-", "W--", "W--"
    };

    private CallSentences() {
    }

    static void test(Sentences s) {
        newObject(s);
        putCounts(s);
        putRefuses(s);
        putIsFull(s);
        putEndsRun(s);
        handlerCounts(s);
        handlerRefuses(s);
        handlerEndsRun(s);
        clear(s);
        start(s);
        step(s);
        stepRefuses(s);
    }

    private static void newObject(Sentences s) {
        s.of("Promise 1", "No steps, no handlers, no run");
        FaultLoom x = new FaultLoom();
        s.is("steps", x.state(0), 0);
        s.is("handlers", x.state(1), 0);
        s.is("run", x.state(10), 0);
        s.is("step(1)", x.step(1), -1);
        s.is("told(0)", x.told(0), 0);
        s.is("clear()", x.clear(), 0);
        s.of("Promise 1", "registers are 0 and NOTHING.");
        registersAreEmpty(s, new FaultLoom());
    }

    private static void registersAreEmpty(Sentences s, FaultLoom x) {
        for (int r = 0; r < 8; r++) {
            s.is("W" + r, x.word(r), 0);
            s.is("T" + r, x.kind(r), -1);
            s.is("T" + r + " is no row", x.size(r), -1);
        }
        for (int r = 0; r < 4; r++) {
            s.is("L" + r, x.wide(r), 0);
            s.real("F" + r, x.single(r), 0);
            s.real("D" + r, x.real(r), 0);
        }
    }

    private static void putCounts(Sentences s) {
        s.of("Promise 2", "One more step: how many there are.");
        FaultLoom x = new FaultLoom();
        for (int i = 1; i <= 150; i++) {
            s.is("put " + i, x.put(1, 0, i, 0), i);
            s.is("steps", x.state(0), i);
        }
        x.clear();
        s.is("behind clear", x.put(0, 0, 0, 0), 1);
    }

    private static int low(char name) {
        return name == 'N' ? 11 : 0;
    }

    private static int high(char name) {
        return name == 'W' || name == 'T' ? 7 : name == 'P' ? 199 : name == 'R' ? 9 : name == 'N' ? 14 : name == 'K' ? 16 : 3;
    }

    private static int put(int op, int at, int number) {
        int[] n = {low(NAMES[op].charAt(0)), low(NAMES[op].charAt(1)), low(NAMES[op].charAt(2))};
        n[at] = number;
        FaultLoom x = new FaultLoom();
        int answer = x.put(op, n[0], n[1], n[2]);
        return x.state(0) == (answer == 1 ? 1 : 0) ? answer : -99;
    }

    private static void putRefuses(Sentences s) {
        s.of("Promise 2", "-1: op is not 0 .. 73");
        for (int op : new int[] {LEAST, -1, 74, GREATEST}) {
            s.is("op " + op, new FaultLoom().put(op, 0, 0, 0), -1);
        }
        s.is("op 0", new FaultLoom().put(0, 0, 0, 0), 1);
        s.is("op 73", new FaultLoom().put(73, 0, 0, 0), 1);
        s.is("names of the operations", NAMES.length, 74);

        s.of("Promise 2", "or a register, place (0 .. 199) or kind that the operation names is none");
        for (int op = 0; op < NAMES.length; op++) {
            for (int at = 0; at < 3; at++) {
                char name = NAMES[op].charAt(at);
                String of = "op " + op + ", " + "abc".charAt(at);
                int refused = name == '-' ? 1 : -1;
                s.is(of + ", the least", put(op, at, LEAST), refused);
                s.is(of + " too small", put(op, at, low(name) - 1), refused);
                s.is(of + " smallest", put(op, at, low(name)), 1);
                s.is(of + " largest", put(op, at, high(name)), 1);
                s.is(of + " too large", put(op, at, high(name) + 1), refused);
                s.is(of + ", the greatest", put(op, at, GREATEST), refused);
            }
        }
        s.is("1 takes any b", new FaultLoom().put(1, 0, LEAST, GREATEST), 1);
        s.is("2 takes any b and c", new FaultLoom().put(2, 0, GREATEST, LEAST), 1);
    }

    private static FaultLoom full() {
        FaultLoom x = new FaultLoom();
        for (int i = 0; i < 150; i++) {
            x.put(1, 0, i, 0);
        }
        return x;
    }

    private static void putIsFull(Sentences s) {
        s.of("Promise 2", "else -2: there are 150.");
        FaultLoom x = full();
        s.is("a right one", x.put(0, 0, 0, 0), -2);
        s.is("a wrong op", x.put(74, 0, 0, 0), -1);
        s.is("a wrong register", x.put(1, 8, 0, 0), -1);
        s.is("a wrong place", x.put(27, 200, 0, 0), -1);
        s.is("a wrong kind", x.put(31, 0, 10, 0), -1);
        x.clear();
        s.is("behind clear", x.put(0, 0, 0, 0), 1);

        s.of("Promise 2", "(Nothing is done then.)");
        x = full();
        x.start();
        x.step(100);
        String before = everything(x);
        s.is("refused by -2", x.put(1, 0, 9, 0), -2);
        s.is("refused by -1", x.put(1, 8, 9, 0), -1);
        s.is("all is as before", everything(x).equals(before), true);
        s.is("the run goes on", x.step(50), 1);
        s.is("with the old steps", x.word(0), 149);
        x = Looms.loom("3");
        x.put(74, 0, 0, 0);
        s.is("a refused step is none", x.put(3, 0, 0, 0), 2);
    }

    /** All that the face tells. */
    private static String everything(FaultLoom x) {
        StringBuilder seen = new StringBuilder(Looms.sight(x));
        for (int what = 0; what <= 10; what++) {
            seen.append(' ').append(x.state(what));
        }
        return seen.toString();
    }

    /** A loom in the midst of a run, with something in registers of each sort. */
    private static FaultLoom midst() {
        FaultLoom x = Looms.loom("1 7 5", "2 3 1 0", "15 3 3", "16 3 3", "33 7 13 7", "73 7", "0");
        x.start();
        x.step(6);
        return x;
    }

    private static void runIsGone(Sentences s, FaultLoom x) {
        s.is("no run", x.state(10), 0);
        s.is("step(1)", x.step(1), -1);
        s.is("W7 stays", x.word(7), 5);
        s.is("L3 stays", x.wide(3), 4294967296L);
        s.real("F3 stays", x.single(3), 4294967296.0);
        s.real("D3 stays", x.real(3), 4294967296.0);
        s.is("T7 stays", x.kind(7), 13);
        s.is("its TAG stays", x.field(7, 0), 5);
    }

    private static void putEndsRun(Sentences s) {
        s.of("Promise 2", "There is no run any more, registers stay.");
        FaultLoom x = midst();
        s.is("there is a run", x.state(10), 1);
        x.put(0, 0, 0, 0);
        runIsGone(s, x);
        x = midst();
        x.step(1);
        s.is("it has ended", x.state(10), 2);
        x.put(0, 0, 0, 0);
        runIsGone(s, x);
        x = Looms.ran("7");
        x.put(0, 0, 0, 0);
        s.is("a run that has stopped", x.state(10), 0);
    }

    private static void handlerCounts(Sentences s) {
        s.of("Promise 3", "One more handler: how many there are.");
        FaultLoom x = new FaultLoom();
        for (int i = 1; i <= 16; i++) {
            s.is("handler " + i, x.handler(0, 1, -1, 0), i);
            s.is("handlers", x.state(1), i);
        }
        s.is("no steps", x.state(0), 0);
        x.clear();
        s.is("behind clear", x.handler(0, 1, -1, 0), 1);
    }

    private static void handlerRefuses(Sentences s) {
        s.of("Promise 3", "-1: from, to or at is not 0 .. 199");
        for (int wrong : new int[] {LEAST, -1, 200, GREATEST}) {
            s.is("from " + wrong, new FaultLoom().handler(wrong, 0, 0, 0), -1);
            s.is("to " + wrong, new FaultLoom().handler(0, wrong, 0, 0), -1);
            s.is("at " + wrong, new FaultLoom().handler(0, 0, 0, wrong), -1);
            s.is("any mask " + wrong, new FaultLoom().handler(0, 0, wrong, 0), 1);
        }
        s.is("0", new FaultLoom().handler(0, 0, 0, 0), 1);
        s.is("199", new FaultLoom().handler(199, 199, 0, 199), 1);
        s.is("to below from", new FaultLoom().handler(199, 0, 0, 0), 1);

        s.of("Promise 3", "else -2: there are 16.");
        FaultLoom x = Looms.loom("7", "0", "0");
        for (int i = 0; i < 16; i++) {
            x.handler(0, 1, 1 << 6, 2);
        }
        s.is("a right one", x.handler(0, 1, -1, 0), -2);
        s.is("from 200", x.handler(200, 1, -1, 0), -1);
        s.is("to -1", x.handler(0, -1, -1, 0), -1);
        s.is("at 200", x.handler(0, 1, -1, 200), -1);

        s.of("Promise 3", "(Nothing is done then.)");
        x.start();
        String before = everything(x);
        s.is("refused by -2", x.handler(0, 1, -1, 0), -2);
        s.is("refused by -1", x.handler(0, 1, -1, 200), -1);
        s.is("all is as before", everything(x).equals(before), true);
        s.is("the run goes on", x.step(1), 0);
        s.is("with the old handlers", x.state(2), 2);
        x = new FaultLoom();
        x.handler(0, 200, 0, 0);
        s.is("a refused handler is none", x.handler(0, 1, 0, 0), 1);
    }

    private static void handlerEndsRun(Sentences s) {
        s.of("Promise 3", "There is no run any more, registers stay.");
        FaultLoom x = midst();
        x.handler(0, 1, 0, 0);
        runIsGone(s, x);
        x = midst();
        x.step(1);
        x.handler(0, 1, 0, 0);
        runIsGone(s, x);
    }

    private static void clear(Sentences s) {
        s.of("Promise 4", "No steps, no handlers");
        FaultLoom x = full();
        for (int i = 0; i < 16; i++) {
            x.handler(0, 1, -1, 0);
        }
        x.clear();
        s.is("steps", x.state(0), 0);
        s.is("handlers", x.state(1), 0);
        s.is("no step is left", x.start(), false);
        s.is("room for 150", x.put(7, 0, 0, 0), 1);
        s.is("no handler is left", x.start() && x.step(1) == 2, true);
        x.clear();
        x.put(27, 149, 0, 0);
        x.start();
        s.is("no step is left at a place of old", x.step(100), 1);
        s.is("it is there", x.state(2), 149);
        s.is("and has done one step", x.state(3), 1);
        x.clear();
        x.put(3, 0, 0, 0);
        x.start();
        s.is("no step is left behind the new one", x.step(100), 1);
        s.is("it is there", x.state(2), 1);
        s.is("and has done one step", x.state(3), 1);
        s.is("room for 16", x.handler(0, 1, 0, 0), 1);

        s.of("Promise 4", "there is no run any more, registers stay");
        x = midst();
        x.clear();
        runIsGone(s, x);
        x = midst();
        x.step(1);
        x.clear();
        runIsGone(s, x);

        s.of("Promise 4", "how many steps there were.");
        s.is("none", new FaultLoom().clear(), 0);
        s.is("one", Looms.loom("0").clear(), 1);
        x = full();
        s.is("150", x.clear(), 150);
        s.is("once more", x.clear(), 0);
    }

    private static void start(Sentences s) {
        s.of("Promise 5", "A run begins; all registers are 0 or NOTHING");
        FaultLoom x = midst();
        x.start();
        s.is("there is a run", x.state(10), 1);
        registersAreEmpty(s, x);
        s.is("it is at place 0", x.state(2), 0);
        s.is("no step was done", x.state(3), 0);
        x = Looms.ran("29 1", "7");
        x.start();
        s.is("behind a stopped run", x.state(10), 1);
        s.is("no failure", x.state(7), 0);
        s.is("no number", x.state(8), 0);
        s.is("no place", x.state(9), -1);
        x = Looms.ran("29 1", "0");
        x.start();
        s.is("no CALLs", x.state(4), 0);

        s.of("Promise 5", "nothing was made or told");
        x = midst();
        s.is("a thing was made", x.state(5), 1);
        s.is("a number was told", x.state(6), 1);
        x.start();
        s.is("things", x.state(5), 0);
        s.is("numbers", x.state(6), 0);
        s.is("told(0)", x.told(0), 0);

        s.of("Promise 5", "whether there is a step (else it has ended at once).");
        x = new FaultLoom();
        s.is("no step", x.start(), false);
        s.is("it has ended", x.state(10), 2);
        s.is("step(0)", x.step(0), 1);
        s.is("at place 0", x.state(2), 0);
        x = Looms.loom("0");
        s.is("a step", x.start(), true);
        s.is("there is more", x.state(10), 1);
        x = midst();
        x.clear();
        s.is("no step any more", x.start(), false);
        registersAreEmpty(s, x);
    }

    private static void step(Sentences s) {
        s.of("Promise 6", "n steps at most are done: 0 there is more, 1 it has ended, 2 it has stopped.");
        FaultLoom x = Looms.loom("27 0");
        x.start();
        int done = 0;
        for (int n : new int[] {0, 1, 99, 100}) {
            done += n;
            s.is("step(" + n + ")", x.step(n), 0);
            s.is("steps", x.state(3), done);
        }
        s.is("at most: HALT", Looms.at(100, "3", "0", "3").state(3), 2);
        s.is("the last of n ends", Looms.stepped(2, "3", "0"), 1);
        s.is("one too few", Looms.stepped(1, "3", "0"), 0);
        s.is("the last of n stops", Looms.stepped(2, "3", "7"), 2);
        s.is("one too few", Looms.stepped(1, "3", "7"), 0);
        x = Looms.at(100, "3", "0");
        s.is("ended already", x.step(100), 1);
        s.is("step(0), ended", x.step(0), 1);
        s.is("no more is done", x.state(3), 2);
        x = Looms.at(100, "3", "7");
        s.is("stopped already", x.step(100), 2);
        s.is("step(0), stopped", x.step(0), 2);
        s.is("no more is done", x.state(3), 2);
        x = Looms.loom("7");
        x.handler(0, 1, -1, 0);
        x.start();
        s.is("failed steps are steps, too", x.step(7), 0);
        s.is("so many", x.state(7), 7);
    }

    private static void stepRefuses(Sentences s) {
        s.of("Promise 6", "-1: there is no run");
        FaultLoom x = Looms.loom("27 0");
        for (int n : new int[] {LEAST, -1, 0, 1, 100, 101, GREATEST}) {
            s.is("step(" + n + ")", x.step(n), -1);
        }
        s.is("no step was done", x.state(3), 0);

        s.of("Promise 6", "else -2: n is not 0 .. 100.");
        for (int n : new int[] {LEAST, -1, 101, GREATEST}) {
            x = Looms.loom("27 0");
            x.start();
            s.is("step(" + n + ")", x.step(n), -2);
            s.is("no step was done", x.state(3), 0);
            s.is("the run stays", x.state(10), 1);
            s.is("step(" + n + "), ended", Looms.ran("0").step(n), -2);
            s.is("step(" + n + "), stopped", Looms.ran("7").step(n), -2);
        }
        x.start();
        s.is("step(0)", x.step(0), 0);
        s.is("step(100)", x.step(100), 0);
    }
}
