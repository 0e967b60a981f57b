/**
 * Promises 1 to 18: whole lives of objects, 512 calls of any kind each, ordinary and wrong ones, on FaultLoom
 * and on FaceModel: every single answer is the same.
 */
public final class CallsTest {
    private static final int LOOMS = 4000;
    private static final int CALLS = 512;
    /** So many steps of a program set registers and make things, so that those behind them find some. */
    private static final int FURNISHED = 24;
    private static final int[] EDGES = {-2, -1, 0, 1, 3, 4, 5, 6, 7, 8, 9, 10, 11, 12, 13, 14, 15, 16, 17, 99, 100, 101, 149,
        150, 198, 199, 200, 201, 1 << 16, Integer.MIN_VALUE, Integer.MAX_VALUE};
    private static final Due DUE = new Due();
    /** How often an answer below 0, 0 and above 0 was seen of each call, so that none is compared in vain. */
    private static final int[][] SEEN = new int[17][3];
    private static final String[] FACE = {"put", "handler", "clear", "start", "step", "word", "wide", "single", "real", "kind",
        "size", "cell", "point", "field", "same", "told", "state"};
    private static final boolean[] NEVER_BELOW = {false, false, true, true, false, false, false, false, false, false, false,
        false, false, false, true, false, false};

    private final Picks picks;
    private final FaultLoom x = new FaultLoom();
    private final FaceModel m = new FaceModel();
    private final String name;

    private CallsTest(int number) {
        picks = new Picks(number * 104729L + 5);
        name = "loom " + number + ": ";
    }

    public static void main(String[] args) {
        for (int i = 0; i < LOOMS; i++) {
            new CallsTest(i).live();
        }
        for (int which = 0; which < SEEN.length; which++) {
            DUE.is(FACE[which] + " was seen below 0", SEEN[which][0] > 0, !NEVER_BELOW[which]);
            DUE.is(FACE[which] + " was seen as 0", SEEN[which][1] > 0, which > 1);
            DUE.is(FACE[which] + " was seen above 0", SEEN[which][2] > 0, true);
        }
        DUE.end();
    }

    private int pick(int below) {
        return picks.below(below);
    }

    private int edge() {
        return EDGES[pick(EDGES.length)];
    }

    /** A program, a run, looks at it; then one call or another. */
    private void live() {
        int puts = 20 + pick(140);
        if (pick(2) == 0) {
            handler(0, 199, -1, FURNISHED);
        }
        for (int call = 1; call < CALLS; call++) {
            int chance = pick(100);
            if (call < puts ? chance < 90 : chance < 2) {
                put();
            } else if (chance < 4 || call < puts && chance < 98) {
                handler();
            } else if (chance < 5 && pick(4) == 0) {
                same("clear()", 2, x.clear(), m.clear());
            } else if (chance < 10) {
                same("start()", 3, x.start() ? 1 : 0, m.start() ? 1 : 0);
            } else if (chance < 25) {
                int n = pick(12) == 0 ? edge() : pick(101);
                same("step(" + n + ")", 4, x.step(n), m.step(n));
            } else {
                look(5 + pick(12));
            }
        }
    }

    private void same(String call, int which, long got, long want) {
        DUE.is(name + call, got, want);
        SEEN[which][Long.signum(want) + 1]++;
    }

    private void same(String call, int which, double got, double want) {
        DUE.real(name + call, got, want);
        SEEN[which][want < 0 ? 0 : want > 0 ? 2 : 1]++;
    }

    private int operand(int op, int i) {
        char named = Operands.NAMES[op].charAt(i);
        int steps = m.loom.steps.size();
        if (pick(60) == 0) {
            return edge();
        }
        if (steps < FURNISHED && i == 0 && op != 73) {
            return op == 1 || op > 30 ? steps % 8 : steps % 4;
        }
        if (op >= 39 && op <= 58 && i == 1) {
            return rowFor((op - 39) % 10);
        }
        if (named == 'P') {
            return later(steps);
        }
        if (named == 'W' && i > 0 && op > 30 && pick(8) != 0) {
            return op <= 32 ? pick(2) : 2 + pick(2);
        }
        if (named == '-') {
            // W0 and W1 begin as counts of places, W2 and W3 as places of such rows.
            return op == 1 && steps < 4 ? pick(3) + (steps < 2 ? 3 : 0) : pick(3) == 0 ? edge() : pick(7) - 3;
        }
        return op == 67 && named == 'T' ? 7 : Operands.low(named) + pick(Operands.high(named) - Operands.low(named) + 1);
    }

    /** A place behind the steps that set registers and make things, as these would soon have no ROOM. */
    private int later(int steps) {
        return pick(10) == 0 ? pick(200) : FURNISHED + pick(Math.max(1, Math.min(160, steps)));
    }

    /** Mostly one that a step of the program makes with the kind that the operation wants. */
    private int rowFor(int wanted) {
        for (int[] step : m.loom.steps) {
            boolean fits = step[0] == 31 && wanted < 9 ? step[2] == wanted : step[0] == 32 && wanted == 9;
            if (fits && pick(4) != 0) {
                return step[1];
            }
        }
        return pick(8);
    }

    /** Numbers first, then things, then any operation. */
    private int operation() {
        int steps = m.loom.steps.size();
        if (pick(100) == 0) {
            return edge();
        }
        if (steps < FURNISHED) {
            return steps < 8 ? 1 : steps < 12 ? 2 : steps < 16 ? 15 + pick(2) : new int[] {31, 31, 31, 32, 33, 67}[pick(6)];
        }
        int op = pick(3) == 0 ? 39 + pick(20) : pick(20) == 0 ? 73 : pick(74);
        return op == 0 || op == 30 && pick(2) == 0 ? pick(74) : op;
    }

    private void put() {
        int op = operation();
        int known = op < 0 || op > 73 ? 0 : op;
        int a = operand(known, 0);
        int b = operand(known, 1);
        int c = operand(known, 2);
        same("put(" + op + ", " + a + ", " + b + ", " + c + ")", 0, x.put(op, a, b, c), m.put(op, a, b, c));
    }

    private int place() {
        return pick(40) == 0 ? edge() : pick(200);
    }

    private void handler() {
        int from = pick(2) == 0 ? pick(8) : place();
        int to = place();
        int mask = pick(3) == 0 ? 1 << pick(32) : pick(4) == 0 ? edge() : -1;
        int at = pick(8) != 0 ? later(m.loom.steps.size()) : place();
        handler(from, to, mask, at);
    }

    private void handler(int from, int to, int mask, int at) {
        same("handler(" + from + ", " + to + ", " + mask + ", " + at + ")", 1, x.handler(from, to, mask, at),
            m.handler(from, to, mask, at));
    }

    private int small() {
        return pick(15) == 0 ? edge() : pick(8);
    }

    /** A row for cell and point, a thing for field, if there is one; else any. */
    private int thingFor(int which) {
        for (int r = 0; r < 8 && which >= 11 && which <= 13; r++) {
            int kind = m.kind(r);
            boolean fits = which == 13 ? kind > 10 : which == 12 ? kind == 6 || kind == 7 : kind >= 0 && kind <= 10;
            if (fits && pick(3) == 0) {
                return r;
            }
        }
        return small();
    }

    private void look(int which) {
        int r = thingFor(which);
        int i = small();
        String one = FACE[which] + "(" + r + ")";
        String two = FACE[which] + "(" + r + ", " + i + ")";
        switch (which) {
            case 5: same(one, which, x.word(r), m.word(r)); break;
            case 6: same(one, which, x.wide(r), m.wide(r)); break;
            case 7: same(one, which, x.single(r), m.single(r)); break;
            case 8: same(one, which, x.real(r), m.real(r)); break;
            case 9: same(one, which, x.kind(r), m.kind(r)); break;
            case 10: same(one, which, x.size(r), m.size(r)); break;
            case 11: same(two, which, x.cell(r, i), m.cell(r, i)); break;
            case 12: same(two, which, x.point(r, i), m.point(r, i)); break;
            case 13: same(two, which, x.field(r, i % 4), m.field(r, i % 4)); break;
            case 14: same(two, which, x.same(r, i) ? 1 : 0, m.same(r, i) ? 1 : 0); break;
            case 15: same(one, which, x.told(r), m.told(r)); break;
            default: state(pick(12) == 0 ? edge() : pick(11)); break;
        }
    }

    private void state(int what) {
        same("state(" + what + ")", 16, x.state(what), m.state(what));
    }
}
