/** Calls with any numbers in any state: none throws, and the same calls give the same answers again. */
public final class WildCallsTest {
    private static final int LOOMS = 4000;
    private static final int CALLS = 512;
    private static final int[] EDGES = {-2, -1, 0, 1, 3, 4, 7, 8, 11, 14, 16, 99, 100, 101, 149, 150, 199, 200,
        Integer.MIN_VALUE, Integer.MAX_VALUE};

    private final Picks picks;

    private WildCallsTest(long seed) {
        picks = new Picks(seed);
    }

    public static void main(String[] args) {
        Due due = new Due();
        for (int i = 0; i < LOOMS; i++) {
            long once = new WildCallsTest(i).calls();
            due.is("loom " + i + " again", new WildCallsTest(i).calls(), once);
        }
        due.end();
    }

    private int pick(int below) {
        return picks.below(below);
    }

    private int any() {
        return pick(3) == 0 ? EDGES[pick(EDGES.length)] : pick(9) - 1;
    }

    private long calls() {
        FaultLoom x = new FaultLoom();
        long seen = 0;
        for (int i = 0; i < CALLS; i++) {
            seen = seen * 31 + (i < CALLS / 3 ? change(x, pick(40)) : change(x, pick(60)));
        }
        return seen;
    }

    private long change(FaultLoom x, int which) {
        switch (which) {
            case 39: return pick(20) == 0 ? x.clear() : 0;
            case 40: return x.start() ? 1 : 0;
            case 41: return x.start() ? x.step(100) : 9;
            case 42: return x.handler(any(), any(), any(), any());
            case 43: return x.handler(0, 150, -1, pick(150));
            case 44: return x.word(any());
            case 45: return x.wide(any());
            case 46: return Double.doubleToLongBits(x.single(any()));
            case 47: return Double.doubleToLongBits(x.real(any()));
            case 48: return x.kind(any());
            case 49: return x.size(any());
            case 50: return x.cell(any(), any());
            case 51: return Double.doubleToLongBits(x.point(any(), any()));
            case 52: return x.field(any(), any());
            case 53: return x.same(any(), any()) ? 1 : 0;
            case 54: return x.told(any());
            case 55: return x.state(any());
            default: return which > 55 ? x.step(any()) : x.put(which < 3 ? any() : pick(74), any(), any(), any());
        }
    }
}
