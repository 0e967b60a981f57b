/** Promises 4, 5, 6, 17 and 18: clear, start, step, told and state. */
public final class RunTest {
    private static final Due DUE = new Due();

    public static void main(String[] args) {
        clear();
        start();
        stepNumbers();
        jumps();
        calls();
        ends();
        told();
        states();
        DUE.end();
    }

    private static void clear() {
        FaultLoom x = Due.ran(Due.s(1, 0, 5, 0), Due.s(33, 0, 12, 0), Due.s(0, 0, 0, 0));
        x.handler(0, 1, 2, 3);
        x.start();
        x.step(2);
        DUE.is("clear()", x.clear(), 3);
        DUE.is("steps", x.state(0), 0);
        DUE.is("handlers", x.state(1), 0);
        DUE.is("no run", x.state(10), 0);
        DUE.is("step(1)", x.step(1), -1);
        DUE.is("W0 stays", x.word(0), 5);
        DUE.is("T0 stays", x.kind(0), 12);
        DUE.is("place of the latest run", x.state(2), 2);
        DUE.is("things of the latest run", x.state(5), 1);
        DUE.is("clear()", x.clear(), 0);
        DUE.is("put", x.put(7, 0, 0, 0), 1);
        x.start();
        DUE.is("old handlers are gone", x.step(5), 2);
    }

    private static void start() {
        FaultLoom x = new FaultLoom();
        DUE.is("start() without steps", x.start(), false);
        DUE.is("ended", x.state(10), 2);
        DUE.is("step(0)", x.step(0), 1);
        DUE.is("step(101)", x.step(101), -2);
        DUE.is("start() with one step", Due.loom(Due.s(0, 0, 0, 0)).start(), true);
        x = Due.ran(Due.s(1, 7, 5, 0), Due.wide(3, 6), Due.s(15, 3, 3, 0), Due.s(16, 3, 3, 0), Due.s(33, 7, 11, 7),
            Due.s(73, 7, 0, 0), Due.s(29, 7, 0, 0), Due.s(7, 0, 0, 0));
        DUE.is("stopped", x.state(10), 3);
        DUE.is("start()", x.start(), true);
        int[] due = {8, 0, 0, 0, 0, 0, 0, 0, 0, -1, 1};
        for (int what = 0; what <= 10; what++) {
            DUE.is("state(" + what + ") when it begins", x.state(what), due[what]);
        }
        DUE.is("W7", x.word(7), 0);
        DUE.is("L3", x.wide(3), 0);
        DUE.real("F3", x.single(3), 0);
        DUE.real("D3", x.real(3), 0);
        DUE.is("T7", x.kind(7), -1);
        DUE.is("told(0)", x.told(0), 0);
    }

    private static void stepNumbers() {
        FaultLoom x = Due.loom(Due.s(27, 0, 0, 0));
        DUE.is("before a run", x.step(1), -1);
        x.start();
        for (int n : new int[] {-1, 101, Integer.MIN_VALUE, Integer.MAX_VALUE}) {
            DUE.is("step(" + n + ")", x.step(n), -2);
        }
        DUE.is("steps", x.state(3), 0);
        DUE.is("step(0)", x.step(0), 0);
        DUE.is("steps", x.state(3), 0);
        DUE.is("step(1)", x.step(1), 0);
        DUE.is("steps", x.state(3), 1);
        DUE.is("step(100)", x.step(100), 0);
        DUE.is("steps", x.state(3), 101);
    }

    private static void jumps() {
        FaultLoom x = Due.ran(Due.s(27, 2, 0, 0), Due.s(1, 0, 1, 0), Due.s(28, 0, 4, 0), Due.s(1, 1, 1, 0),
            Due.s(1, 2, 1, 0), Due.s(28, 2, 8, 0), Due.s(1, 3, 1, 0));
        DUE.is("W0 is jumped over", x.word(0), 0);
        DUE.is("W1 is jumped over", x.word(1), 0);
        DUE.is("W2", x.word(2), 1);
        DUE.is("W3, no jump as W2 is 1", x.word(3), 1);
        DUE.is("steps", x.state(3), 5);
        x = Due.ran(Due.s(1, 0, -1, 0), Due.s(28, 0, 199, 0));
        DUE.is("-1 is not 0", x.state(2), 2);
        x = Due.loom(Due.s(27, 199, 0, 0));
        x.start();
        DUE.is("ended at once", x.step(1), 1);
        DUE.is("place", x.state(2), 199);
    }

    private static void calls() {
        FaultLoom x = Due.loom(Due.s(29, 3, 0, 0), Due.s(1, 0, 1, 0), Due.s(0, 0, 0, 0), Due.s(29, 5, 0, 0),
            Due.s(30, 0, 0, 0), Due.s(1, 1, 1, 0), Due.s(30, 0, 0, 0));
        x.start();
        int[] places = {3, 5, 6, 4, 1, 2, 2};
        int[] depths = {1, 2, 2, 1, 0, 0, 0};
        for (int i = 0; i < places.length; i++) {
            DUE.is("step " + i, x.step(1), i == 6 ? 1 : 0);
            DUE.is("place " + i, x.state(2), places[i]);
            DUE.is("calls " + i, x.state(4), depths[i]);
        }
        x = Due.ran(Due.s(27, 2, 0, 0), Due.s(30, 0, 0, 0), Due.s(29, 1, 0, 0));
        DUE.is("returned to where no step is", x.state(2), 3);
        DUE.is("steps", x.state(3), 3);
        DUE.is("ended", x.state(10), 2);
        x = Due.loom(Due.s(29, 0, 0, 0));
        x.start();
        DUE.is("12 calls", x.step(12), 0);
        DUE.is("the 13th", x.step(1), 2);
        DUE.is("number", x.state(8), 7);
    }

    private static void ends() {
        FaultLoom x = Due.loom(Due.s(1, 0, 1, 0), Due.s(0, 0, 0, 0), Due.s(1, 0, 2, 0));
        x.start();
        DUE.is("step(2)", x.step(2), 1);
        DUE.is("place of HALT", x.state(2), 1);
        DUE.is("step(1)", x.step(1), 1);
        DUE.is("steps", x.state(3), 2);
        DUE.is("W0", x.word(0), 1);
        x = Due.ran(Due.s(1, 0, 1, 0), Due.s(30, 0, 0, 0), Due.s(1, 0, 2, 0));
        DUE.is("place of RETURN", x.state(2), 1);
        DUE.is("ended", x.state(10), 2);
        x = Due.loom(Due.s(1, 0, 1, 0));
        x.start();
        DUE.is("behind the last step", x.step(1), 1);
        DUE.is("place", x.state(2), 1);
        x = Due.ran(Due.s(29, 1, 0, 0), Due.s(0, 0, 0, 0));
        DUE.is("HALT leaves calls", x.state(4), 1);
    }

    private static void told() {
        FaultLoom x = Due.loom(Due.s(1, 1, 1, 0), Due.s(4, 0, 0, 1), Due.s(73, 0, 0, 0), Due.s(27, 1, 0, 0));
        x.start();
        for (int i = 0; i < 6; i++) {
            x.step(100);
        }
        DUE.is("told", x.state(6), 200);
        DUE.is("told(0)", x.told(0), 1);
        DUE.is("told(198)", x.told(198), 199);
        DUE.is("told(199)", x.told(199), 200);
        x.step(100);
        DUE.is("told", x.state(6), 233);
        DUE.is("told(0)", x.told(0), 1);
        DUE.is("told(199)", x.told(199), 200);
        DUE.is("told(200)", x.told(200), 0);
        DUE.is("told(232)", x.told(232), 0);
        DUE.is("told(-1)", x.told(-1), 0);
        DUE.is("told(least)", x.told(Integer.MIN_VALUE), 0);
        x.start();
        DUE.is("told", x.state(6), 0);
        DUE.is("told(0)", x.told(0), 0);
        x.step(3);
        DUE.is("told(0)", x.told(0), 1);
        DUE.is("told(1)", x.told(1), 0);
    }

    private static void states() {
        FaultLoom x = Due.loom(Due.s(1, 0, 2, 0), Due.s(32, 0, 0, 0), Due.s(73, 0, 0, 0), Due.s(29, 4, 0, 0),
            Due.s(59, 0, 0, 0), Due.s(73, 0, 0, 0), Due.s(0, 0, 0, 0));
        x.handler(4, 5, 1 << 4, 5);
        x.handler(0, 5, 1 << 1, 5);
        x.start();
        x.step(100);
        int[] due = {7, 2, 6, 7, 1, 3, 2, 1, 4, 4, 2};
        for (int what = 0; what <= 10; what++) {
            DUE.is("state(" + what + ")", x.state(what), due[what]);
        }
        for (int what : new int[] {-1, 11, Integer.MIN_VALUE, Integer.MAX_VALUE}) {
            DUE.is("state(" + what + ")", x.state(what), -1);
        }
    }
}
