/** Promise 2: put. */
public final class PutTest {
    private static final Due DUE = new Due();

    public static void main(String[] args) {
        DUE.is("operations", Operands.NAMES.length, 74);
        for (int op = 0; op < Operands.NAMES.length; op++) {
            for (int i = 0; i < 3; i++) {
                operandEdges(op, i);
            }
        }
        FaultLoom x = new FaultLoom();
        for (int op : new int[] {-1, 74, 75, Integer.MIN_VALUE, Integer.MAX_VALUE}) {
            DUE.is("put(" + op + ")", x.put(op, 0, 0, 0), -1);
        }
        DUE.is("steps after refusals", x.state(0), 0);
        limit();
        runIsGone();
        DUE.end();
    }

    private static void operandEdges(int op, int i) {
        char name = Operands.NAMES[op].charAt(i);
        if (name == '-') {
            tryOperand(op, i, Integer.MIN_VALUE, true);
            tryOperand(op, i, -1, true);
            tryOperand(op, i, Integer.MAX_VALUE, true);
            return;
        }
        tryOperand(op, i, Operands.low(name), true);
        tryOperand(op, i, Operands.high(name), true);
        tryOperand(op, i, Operands.low(name) - 1, false);
        tryOperand(op, i, Operands.high(name) + 1, false);
        tryOperand(op, i, Integer.MIN_VALUE, false);
        tryOperand(op, i, Integer.MAX_VALUE, false);
    }

    private static void tryOperand(int op, int i, int value, boolean fits) {
        int[] v = new int[3];
        for (int k = 0; k < 3; k++) {
            char name = Operands.NAMES[op].charAt(k);
            v[k] = Operands.low(name);
        }
        v[i] = value;
        FaultLoom x = new FaultLoom();
        String call = "put(" + op + ", " + v[0] + ", " + v[1] + ", " + v[2] + ")";
        DUE.is(call, x.put(op, v[0], v[1], v[2]), fits ? 1 : -1);
        DUE.is(call + " state(0)", x.state(0), fits ? 1 : 0);
    }

    private static void limit() {
        FaultLoom x = new FaultLoom();
        for (int i = 1; i <= 150; i++) {
            DUE.is("put " + i, x.put(1, 0, i, 0), i);
        }
        DUE.is("put 151", x.put(0, 0, 0, 0), -2);
        DUE.is("a wrong put 151", x.put(74, 0, 0, 0), -1);
        DUE.is("a wrong register in put 151", x.put(1, 8, 0, 0), -1);
        DUE.is("steps", x.state(0), 150);
        x.start();
        DUE.is("refused", x.put(0, 0, 0, 0), -2);
        DUE.is("the run stays", x.state(10), 1);
        DUE.is("step(100)", x.step(100), 0);
        DUE.is("step(49)", x.step(49), 0);
        DUE.is("step(1)", x.step(1), 1);
        DUE.is("word(0)", x.word(0), 150);
        DUE.is("state(2)", x.state(2), 150);
    }

    private static void runIsGone() {
        FaultLoom x = Due.loom(Due.s(1, 2, 77, 0), Due.s(33, 3, 11, 2), Due.s(73, 2, 0, 0), Due.s(0, 0, 0, 0));
        x.start();
        x.step(3);
        DUE.is("refused", x.put(1, 8, 0, 0), -1);
        DUE.is("the run stays", x.state(10), 1);
        DUE.is("put", x.put(0, 0, 0, 0), 5);
        DUE.is("no run", x.state(10), 0);
        DUE.is("step", x.step(1), -1);
        DUE.is("step of a wrong number", x.step(101), -1);
        DUE.is("W2 stays", x.word(2), 77);
        DUE.is("T3 stays", x.kind(3), 11);
        DUE.is("place of the latest run", x.state(2), 3);
        DUE.is("steps of the latest run", x.state(3), 3);
        DUE.is("told of the latest run", x.told(0), 77);
    }
}
