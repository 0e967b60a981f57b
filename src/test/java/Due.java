/** Compares answers with those that are due, and makes looms for the tests. */
final class Due {
    private int wrong;

    void is(String call, long got, long want) {
        if (got != want) {
            miss(call, Long.toString(got), Long.toString(want));
        }
    }

    void is(String call, boolean got, boolean want) {
        if (got != want) {
            miss(call, Boolean.toString(got), Boolean.toString(want));
        }
    }

    /** By their bits, so that 0 and -0 are not the same. */
    void real(String call, double got, double want) {
        if (Double.doubleToLongBits(got) != Double.doubleToLongBits(want)) {
            miss(call, Double.toString(got), Double.toString(want));
        }
    }

    void miss(String call, String got, String want) {
        wrong++;
        System.out.println(call + " answered " + got + ", due is " + want);
    }

    void end() {
        if (wrong != 0) {
            System.out.println(wrong + " answers are not as due");
            System.exit(1);
        }
    }

    /** A new loom with these steps, each op, a, b, c. */
    static FaultLoom loom(int[]... steps) {
        FaultLoom x = new FaultLoom();
        for (int[] step : steps) {
            if (x.put(step[0], step[1], step[2], step[3]) < 0) {
                throw new IllegalArgumentException("the test has a step that is none: " + step[0]);
            }
        }
        return x;
    }

    /** A new loom with these steps, started, and 100 steps at most done. */
    static FaultLoom ran(int[]... steps) {
        FaultLoom x = loom(steps);
        x.start();
        x.step(100);
        return x;
    }

    static int[] s(int op, int a, int b, int c) {
        return new int[] {op, a, b, c};
    }

    /** La := value. */
    static int[] wide(int a, long value) {
        return s(2, a, (int) (value >> 32), (int) value);
    }
}
