/**
 * Every operation with things (31 to 72) on NOTHING and on things of every kind, two at a time, and with a word
 * that is a place, none and far from one, on FaultLoom and on LoomModel: what is seen afterwards is the same.
 */
public final class KindsTest {
    private static final int NOTHING = -1;
    /** The NUMBER of the faults that are made here, by W7 = 2. */
    private static final int THROWN = 10;
    private static final int[] WORDS = {Integer.MIN_VALUE, -1, 0, 1, 2, 6, 7, 12, 13, Integer.MAX_VALUE};
    private static final Due DUE = new Due();
    private static final int[] SEEN_FAILURES = new int[24];

    private final FaultLoom x = new FaultLoom();
    private final LoomModel m = new LoomModel();

    public static void main(String[] args) {
        for (int op = 31; op <= 72; op++) {
            for (int first = NOTHING; first <= 15; first++) {
                for (int second = NOTHING; second <= 15; second++) {
                    tryAll(op, first, second);
                }
            }
        }
        for (int n : new int[] {1, 2, 3, 4, 5, 7, THROWN}) {
            DUE.is("failure " + n + " was seen", SEEN_FAILURES[n] > 0, true);
        }
        DUE.end();
    }

    private static void tryAll(int op, int first, int second) {
        String named = Operands.NAMES[op];
        for (int word : WORDS) {
            for (int free = free(named); free >= Operands.low(freeName(named)); free--) {
                new KindsTest().tryOne(op, first, second, word, free);
            }
        }
    }

    /** The name of the operand that is a kind, '-' if there is none. */
    private static char freeName(String named) {
        return named.indexOf('R') >= 0 ? 'R' : named.indexOf('N') >= 0 ? 'N' : named.indexOf('K') >= 0 ? 'K' : '-';
    }

    private static int free(String named) {
        char name = freeName(named);
        return name == '-' ? 0 : Operands.high(name);
    }

    /** T0 (first) stands for the first T that is named, T1 (second) for the others, W5 for words but Wa. */
    private void tryOne(int op, int first, int second, int word, int free) {
        put(1, 7, 2, 0);
        put(1, 5, word, 0);
        put(1, 1, -3, 0);
        put(2, 1, -5, 7);
        put(15, 1, 1, 0);
        put(16, 1, 1, 0);
        make(0, first);
        make(1, second);
        int[] operands = new int[3];
        for (int i = 0; i < 3; i++) {
            operands[i] = operand(Operands.NAMES[op], i, free);
        }
        put(op, operands[0], operands[1], operands[2]);
        put(69, 3, 0, 0);
        x.handler(0, 199, 1 << THROWN, 9);
        m.handlers.add(new int[] {0, 199, 1 << THROWN, 9});
        x.start();
        m.start();
        String of = op + " of kinds " + first + ", " + second + " with " + word + ", " + free;
        DUE.is(of + " step(100)", x.step(100), m.step(100));
        SEEN_FAILURES[m.failure]++;
        Alike.all(DUE, of, x, m);
    }

    private static int operand(String named, int i, int free) {
        switch (named.charAt(i)) {
            case 'T': return named.indexOf('T') == i ? 0 : 1;
            case 'W': return i == 0 ? 1 : 5;
            case 'L':
            case 'F':
            case 'D': return 1;
            default: return free;
        }
    }

    private void put(int op, int a, int b, int c) {
        m.steps.add(new int[] {op, a, b, c});
        DUE.is("put(" + op + ", " + a + ", " + b + ", " + c + ")", x.put(op, a, b, c), m.steps.size());
    }

    /** Rows have W7 = 2 places, TAGs are 2, too, a fault's NUMBER is THROWN; T7 is NOTHING. */
    private void make(int r, int kind) {
        int[] made = kind == NOTHING ? Due.s(35, r, 0, 0) : Looms.numbers(Looms.thing(r, kind));
        put(made[0], made[1], made[2], made[3]);
    }
}
