/** Many programs, the same ones each time, on FaultLoom and on LoomModel: every answer is the same. */
public final class ModelTest {
    private static final int PROGRAMS = 20000;
    private static final Due DUE = new Due();
    private static final int[] SEEN_FAILURES = new int[24];
    private static final int[] SEEN_ENDS = new int[4];

    private final Picks picks;
    /** The kind that each T has had at first, to choose steps that often can be done. */
    private final int[] kinds = new int[8];

    private ModelTest(long seed) {
        picks = new Picks(seed);
    }

    public static void main(String[] args) {
        for (int i = 0; i < PROGRAMS; i++) {
            new ModelTest(i * 7919L + 1).compare(i);
        }
        for (int n = 1; n < SEEN_FAILURES.length; n++) {
            DUE.is("the programs show failure " + n, SEEN_FAILURES[n] > 0, true);
        }
        for (int n = 1; n < SEEN_ENDS.length; n++) {
            DUE.is("the programs show state " + n, SEEN_ENDS[n] > 0, true);
        }
        DUE.end();
    }

    private int pick(int below) {
        return picks.below(below);
    }

    private int number() {
        switch (pick(8)) {
            case 0: return pick(5) - 2;
            case 1: return -1 - pick(70000);
            case 2: return 1 << pick(32);
            case 3: return pick(1 << 16) * 65537;
            case 4: return pick(2) == 0 ? Integer.MIN_VALUE : Integer.MAX_VALUE;
            case 5: return pick(32);
            default: return pick(7);
        }
    }

    private void put(FaultLoom x, LoomModel m, int op, int a, int b, int c) {
        int answer = x.put(op, a, b, c);
        if (answer > 0) {
            m.steps.add(new int[] {op, a, b, c});
        }
        DUE.is("put", answer < 0 ? m.steps.size() : answer, m.steps.size());
    }

    /** Things of all kinds first, so that the steps behind find some. */
    private void furnish(FaultLoom x, LoomModel m) {
        for (int r = 0; r < 8; r++) {
            put(x, m, 1, r, number(), 0);
        }
        for (int r = 0; r < 4; r++) {
            put(x, m, 2, r, number(), number());
            put(x, m, 15 + pick(2), pick(4), r, 0);
        }
        put(x, m, 1, 0, 1 + pick(6), 0);
        for (int r = 0; r < 7; r++) {
            int kind = pick(16);
            kinds[r] = kind;
            if (kind < 10) {
                put(x, m, 31, r, kind, 0);
            } else if (kind == 10) {
                put(x, m, 32, r, 0, 0);
            } else if (kind < 15) {
                put(x, m, 33, r, kind, pick(8));
            } else {
                put(x, m, 67, r, pick(8), 7);
            }
        }
    }

    private void anyStep(FaultLoom x, LoomModel m, int steps) {
        int op = pick(74);
        if (op == 0 && pick(4) != 0 || op == 30 && pick(2) != 0) {
            op = 39 + pick(30);
        }
        int a = pick(8);
        int b = pick(8);
        int c = pick(8);
        if (op == 1 || op == 2) {
            b = number();
            c = number();
        } else if (op >= 27 && op <= 29) {
            a = op == 28 ? a : pick(steps + 1);
            b = pick(steps + 1);
        } else if (op == 31) {
            b = pick(10);
        } else if (op == 33) {
            b = 11 + pick(4);
        } else if (op == 37) {
            c = pick(17);
        } else if (op >= 39 && op <= 58) {
            rowStep(x, m, op, a);
            return;
        } else if (op >= 59 && op <= 66) {
            b = withKind(11 + pick(op == 66 ? 4 : 3));
        } else if (op == 68) {
            a = withKind(15);
        } else if (op == 70 || op == 71) {
            b = withKind(15);
        }
        putFitting(x, m, op, a, b, c);
    }

    /** A step at a row that may be of the kind, at a place that it may have. */
    private void rowStep(FaultLoom x, LoomModel m, int op, int a) {
        int kind = (op - 39) % 10;
        int row = withKind(kind == 9 ? 10 : kind == 8 ? 8 + pick(2) : kind);
        int i = pick(4);
        if (i != 0) {
            put(x, m, 1, 7, pick(i) - pick(i) / 2, 0);
        }
        int given = op == 57 ? withKind(11 + pick(3)) : op == 58 ? withKind(4) : a;
        putFitting(x, m, op, given, row, i == 0 ? pick(8) : 7);
    }

    private int withKind(int kind) {
        for (int r = pick(7), tries = 0; tries < 8; r = (r + 1) % 7, tries++) {
            if (kinds[r] == kind && pick(8) != 0) {
                return r;
            }
        }
        return pick(8);
    }

    /** There are but four longs, singles and doubles: what is refused is tried once more in their numbers. */
    private void putFitting(FaultLoom x, LoomModel m, int op, int a, int b, int c) {
        int before = m.steps.size();
        put(x, m, op, a, b, c);
        if (m.steps.size() == before) {
            put(x, m, op, a % 4, op >= 44 && op <= 62 ? b : b % 4, op >= 44 ? c : c % 4);
        }
    }

    private void compare(int program) {
        FaultLoom x = new FaultLoom();
        LoomModel m = new LoomModel();
        furnish(x, m);
        int steps = 30 + pick(100);
        for (int i = 0; i < steps; i++) {
            anyStep(x, m, steps);
        }
        for (int i = pick(17); i > 0; i--) {
            int from = pick(steps);
            int mask = pick(3) == 0 ? number() : -1;
            int[] h = {from, Math.min(199, from + pick(80)), mask, Math.min(199, from + pick(40))};
            m.handlers.add(h);
            DUE.is("handler", x.handler(h[0], h[1], h[2], h[3]), m.handlers.size());
        }
        for (int run = pick(2); run >= 0; run--) {
            x.start();
            m.start();
            for (int i = 0; i < 4; i++) {
                int n = pick(5) == 0 ? pick(101) : pick(20);
                DUE.is("program " + program + " step(" + n + ")", x.step(n), m.step(n));
                SEEN_FAILURES[m.failure]++;
                SEEN_ENDS[m.status]++;
            }
        }
        Alike.all(DUE, "program " + program, x, m);
    }
}
