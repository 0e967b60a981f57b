/** Promise 3: handler, and how a failure finds the handler that names it. */
public final class HandlerTest {
    private static final Due DUE = new Due();
    private static final int ALL = -1;

    public static void main(String[] args) {
        edges();
        limit();
        runIsGone();
        firstToldWins();
        places();
        eachNumber();
        throughCalls();
        calledAgain();
        whatWasHandled();
        stopGivesUpCalls();
        onAtPlaceZero();
        DUE.end();
    }

    private static void edges() {
        FaultLoom x = new FaultLoom();
        int[] wrong = {-1, 200, Integer.MIN_VALUE, Integer.MAX_VALUE};
        for (int v : wrong) {
            DUE.is("from " + v, x.handler(v, 0, 0, 0), -1);
            DUE.is("to " + v, x.handler(0, v, 0, 0), -1);
            DUE.is("at " + v, x.handler(0, 0, 0, v), -1);
        }
        DUE.is("handlers", x.state(1), 0);
        DUE.is("greatest", x.handler(199, 199, Integer.MAX_VALUE, 199), 1);
        DUE.is("to below from", x.handler(199, 0, Integer.MIN_VALUE, 0), 2);
        DUE.is("handlers", x.state(1), 2);
    }

    private static void limit() {
        FaultLoom x = new FaultLoom();
        for (int i = 1; i <= 16; i++) {
            DUE.is("handler " + i, x.handler(0, 1, 0, 0), i);
        }
        DUE.is("handler 17", x.handler(0, 1, 0, 0), -2);
        DUE.is("a wrong handler 17", x.handler(0, 200, 0, 0), -1);
        DUE.is("handlers", x.state(1), 16);
    }

    private static void runIsGone() {
        FaultLoom x = Due.loom(Due.s(1, 0, 5, 0), Due.s(0, 0, 0, 0));
        x.start();
        x.step(1);
        x.handler(0, -1, 0, 0);
        DUE.is("the run stays", x.state(10), 1);
        x.handler(0, 1, 0, 0);
        DUE.is("no run", x.state(10), 0);
        DUE.is("step", x.step(0), -1);
        DUE.is("W0 stays", x.word(0), 5);
    }

    private static void firstToldWins() {
        FaultLoom x = Due.loom(Due.s(7, 0, 0, 0), Due.s(0, 0, 0, 0), Due.s(0, 0, 0, 0), Due.s(0, 0, 0, 0));
        x.handler(0, 1, ~(1 << 6), 1);
        x.handler(0, 1, 1 << 6, 2);
        x.handler(0, 1, ALL, 3);
        x.start();
        DUE.is("step(1)", x.step(1), 0);
        DUE.is("place", x.state(2), 2);
        DUE.is("failures", x.state(7), 1);
        DUE.is("number", x.state(8), 6);
        DUE.is("its place", x.state(9), 0);
        DUE.is("steps done", x.state(3), 1);
    }

    private static void places() {
        for (int from = 0; from < 4; from++) {
            for (int to = 0; to < 4; to++) {
                FaultLoom x = Due.loom(Due.s(1, 1, 4, 0), Due.s(7, 0, 0, 0), Due.s(1, 2, 9, 0));
                x.handler(from, to, 1 << 6, 150);
                x.start();
                boolean handled = from <= 1 && to > 1;
                DUE.is("step(2) " + from + " " + to, x.step(2), handled ? 1 : 2);
                DUE.is("place " + from + " " + to, x.state(2), handled ? 150 : 1);
                DUE.is("state " + from + " " + to, x.state(10), handled ? 2 : 3);
            }
        }
    }

    private static void eachNumber() {
        for (int number = 8; number <= 23; number++) {
            for (int bit = 0; bit < 32; bit++) {
                FaultLoom x = Due.loom(Due.s(1, 1, number - 8 + 16 * bit, 0), Due.s(67, 0, 1, 7), Due.s(68, 0, 0, 0),
                    Due.s(72, 3, 0, 0), Due.s(69, 4, 0, 0), Due.s(70, 5, 4, 0), Due.s(0, 0, 0, 0));
                x.handler(0, 9, 1 << bit, 3);
                x.start();
                DUE.is("step " + number + " " + bit, x.step(100), bit == number ? 1 : 2);
                DUE.is("W3 " + number + " " + bit, x.word(3), bit == number ? number : 0);
                DUE.is("W5 " + number + " " + bit, x.word(5), bit == number ? number : 0);
                DUE.is("state(8) " + number + " " + bit, x.state(8), number);
                DUE.is("same " + number + " " + bit, x.same(0, 4), bit == number);
            }
        }
    }

    /** 0 CALL 2, 1 HALT, 2 CALL 4, 3 HALT, 4 CALL 6, 5 HALT, 6 fails. */
    private static void throughCalls() {
        for (int at = 0; at <= 6; at += 2) {
            FaultLoom x = Due.loom(Due.s(29, 2, 0, 0), Due.s(0, 0, 0, 0), Due.s(29, 4, 0, 0), Due.s(0, 0, 0, 0),
                Due.s(29, 6, 0, 0), Due.s(0, 0, 0, 0), Due.s(8, 1, 1, 1), Due.s(1, 7, 1, 0), Due.s(30, 0, 0, 0));
            x.handler(at, at + 1, 1 << 6, 7);
            x.start();
            DUE.is("step(4)", x.step(4), 0);
            DUE.is("calls, handled at " + at, x.state(4), at / 2);
            DUE.is("place, handled at " + at, x.state(2), 7);
            DUE.is("failure's place", x.state(9), 6);
            DUE.is("step(2)", x.step(2), at == 0 ? 1 : 0);
            DUE.is("place, returned, handled at " + at, x.state(2), at == 0 ? 8 : at - 1);
        }
    }

    /** The 13th CALL fails at its own place first, then at those of the others. */
    private static void calledAgain() {
        FaultLoom x = Due.loom(Due.s(29, 0, 0, 0), Due.s(0, 0, 0, 0));
        x.handler(0, 1, 1 << 7, 1);
        x.start();
        DUE.is("step(12)", x.step(12), 0);
        DUE.is("calls", x.state(4), 12);
        DUE.is("failures", x.state(7), 0);
        DUE.is("step(1)", x.step(1), 0);
        DUE.is("calls", x.state(4), 12);
        DUE.is("number", x.state(8), 7);
        DUE.is("place", x.state(2), 1);
        DUE.is("step(1)", x.step(1), 1);
        DUE.is("calls", x.state(4), 12);
        DUE.is("steps", x.state(3), 14);
    }

    private static void whatWasHandled() {
        FaultLoom x = Due.loom(Due.s(72, 1, 0, 0), Due.s(69, 1, 0, 0), Due.s(67, 0, 1, 7), Due.s(68, 0, 0, 0),
            Due.s(69, 2, 0, 0), Due.s(72, 2, 0, 0), Due.s(68, 7, 0, 0), Due.s(69, 3, 0, 0), Due.s(72, 3, 0, 0));
        x.handler(3, 4, 1 << 8, 4);
        x.handler(6, 7, 1 << 1, 7);
        x.start();
        DUE.is("step(100)", x.step(100), 1);
        DUE.is("72 before one", x.word(1), 0);
        DUE.is("69 before one", x.kind(1), -1);
        DUE.is("72 of a fault", x.word(2), 8);
        DUE.is("69 of a fault", x.same(0, 2), true);
        DUE.is("72 of a THROW of NOTHING", x.word(3), 1);
        DUE.is("69 of a THROW of NOTHING", x.kind(3), -1);
        x.start();
        x.step(4);
        DUE.is("a fault was handled", x.state(8), 8);
        x.start();
        x.step(2);
        DUE.is("72 in a new run", x.word(1), 0);
        DUE.is("69 in a new run", x.kind(1), -1);
    }

    /** Two CALLs deep, handled at the second: the first is not given up, though the place is 0. */
    private static void onAtPlaceZero() {
        FaultLoom x = Due.loom(Due.s(29, 1, 0, 0), Due.s(29, 2, 0, 0), Due.s(59, 0, 0, 0));
        x.handler(1, 2, 1 << 1, 0);
        x.start();
        DUE.is("step(3)", x.step(3), 0);
        DUE.is("place", x.state(2), 0);
        DUE.is("calls", x.state(4), 1);
        DUE.is("failure's place", x.state(9), 2);
    }

    private static void stopGivesUpCalls() {
        FaultLoom x = Due.loom(Due.s(29, 1, 0, 0), Due.s(29, 2, 0, 0), Due.s(59, 0, 0, 0));
        x.handler(0, 3, ~(1 << 1), 0);
        x.start();
        DUE.is("step(100)", x.step(100), 2);
        DUE.is("calls", x.state(4), 0);
        DUE.is("place", x.state(2), 2);
        DUE.is("failure's place", x.state(9), 2);
        DUE.is("steps", x.state(3), 3);
        DUE.is("step(100)", x.step(100), 2);
        DUE.is("steps", x.state(3), 3);
        DUE.is("failures", x.state(7), 1);
    }
}
