/** How long an object is used, and the registers. */
final class RegisterSentences {
    private static final String TERMS = "Terms";
    private static final int LEAST = Integer.MIN_VALUE;
    private static final int GREATEST = Integer.MAX_VALUE;

    private RegisterSentences() {
    }

    static void test(Sentences s) {
        manyCalls(s);
        dearCalls(s);
        nearestHandler(s);
        zeroAtFirst(s);
        words(s);
        longs(s);
        singlesAndDoubles(s);
        nearest(s);
        things(s);
    }

    private static void manyCalls(Sentences s) {
        s.of("What it is", "An object is used for at most 512 calls after it has been made");
        FaultLoom x = Looms.loom("27 0");
        x.start();
        for (int call = 3; call < 512; call++) {
            s.is("call " + call, x.step(100), 0);
        }
        s.is("call 512", x.state(3), 50900);
    }

    /** 60 things in each run, and as many runs as the calls leave. */
    private static void dearCalls(Sentences s) {
        s.of("What it is", "for at most 512 calls");
        FaultLoom x = Looms.loom(Looms.join(new String[] {"1 0 12", "1 1 6"},
            Looms.join(Looms.times(3, "32 1 1 1"), Looms.times(40, "31 0 7 0"))));
        for (int call = 46; call < 511; call += 2) {
            s.is("call " + call, x.start(), true);
            s.is("call " + (call + 1), x.step(100), 2);
        }
        s.is("things", x.state(5), 60);
    }

    private static void nearestHandler(Sentences s) {
        s.of(TERMS, "What can't be done is a failure with a number, goes to the nearest handler that names it");
        FaultLoom x = Looms.loom("29 1", "29 2", "7", "0", "0", "0");
        x.handler(0, 1, 1 << 6, 3);
        x.handler(1, 2, 1 << 6, 4);
        x.handler(2, 3, ~(1 << 6), 5);
        x.start();
        x.step(3);
        s.is("the number", x.state(8), 6);
        s.is("the nearest that names it", x.state(2), 4);

        s.of(TERMS, "through any depth of calls");
        x = Looms.loom("29 1", "29 1", "0");
        x.handler(0, 1, 1 << 7, 2);
        x.start();
        s.is("12 calls", x.step(12), 0);
        s.is("deep", x.state(4), 12);
        s.is("the 13th", x.step(1), 0);
        s.is("all are given up", x.state(4), 0);
        s.is("on at", x.state(2), 2);

        s.of(TERMS, "and has changed nothing.");
        x = Looms.loom("1 0 5", "33 0 11 0", "7 0 0 7", "0");
        x.handler(2, 3, 1 << 6, 3);
        x.start();
        x.step(2);
        String before = Looms.sight(x);
        x.step(1);
        s.is("it was handled", x.state(2), 3);
        s.is("all is as before", Looms.sight(x).equals(before), true);
    }

    private static FaultLoom filled() {
        FaultLoom x = new FaultLoom();
        for (int r = 0; r < 8; r++) {
            x.put(1, r, -r - 1, 0);
            x.put(33, r, 11 + r % 4, r);
        }
        for (int r = 0; r < 4; r++) {
            x.put(2, r, -1, -r - 1);
            x.put(15, r, r, 0);
            x.put(16, r, r, 0);
        }
        return x;
    }

    private static void zeroAtFirst(Sentences s) {
        s.of(TERMS, "REGISTERS, all 0 or NOTHING when a run begins");
        FaultLoom x = filled();
        x.start();
        s.is("all are filled", x.step(28), 1);
        for (int r = 0; r < 8; r++) {
            s.is("W" + r, x.word(r), -r - 1);
            s.is("T" + r, x.kind(r), 11 + r % 4);
        }
        for (int r = 0; r < 4; r++) {
            s.is("L" + r, x.wide(r), -r - 1);
            s.real("F" + r, x.single(r), -r - 1);
            s.real("D" + r, x.real(r), -r - 1);
        }
        x.start();
        for (int r = 0; r < 8; r++) {
            s.is("W" + r + " in a new run", x.word(r), 0);
            s.is("T" + r + " in a new run", x.kind(r), -1);
        }
        for (int r = 0; r < 4; r++) {
            s.is("L" + r + " in a new run", x.wide(r), 0);
            s.real("F" + r + " in a new run", x.single(r), 0);
            s.real("D" + r + " in a new run", x.real(r), 0);
        }
    }

    private static void words(Sentences s) {
        s.of(TERMS, "W0 .. W7 words (32 bits with sign)");
        for (int r = 0; r < 8; r++) {
            s.is("the greatest", Looms.ran(Looms.word(r, GREATEST)).word(r), 2147483647);
            s.is("the least", Looms.ran(Looms.word(r, LEAST)).word(r), -2147483648);
        }
        s.is("behind the greatest", Looms.ran(Looms.word(0, GREATEST), "1 1 1", "4 0 0 1").word(0), LEAST);
        s.is("W8", new FaultLoom().put(1, 8, 0, 0), -1);
        s.is("W-1", new FaultLoom().put(1, -1, 0, 0), -1);
    }

    private static void longs(Sentences s) {
        s.of(TERMS, "L0 .. L3 longs (64 bits)");
        for (int r = 0; r < 4; r++) {
            s.is("the greatest", Looms.ran(Looms.wide(r, Long.MAX_VALUE)).wide(r), Long.MAX_VALUE);
            s.is("the least", Looms.ran(Looms.wide(r, Long.MIN_VALUE)).wide(r), Long.MIN_VALUE);
        }
        s.is("behind the greatest", Looms.ran(Looms.wide(0, Long.MAX_VALUE), "2 1 0 1", "9 0 0 1").wide(0), Long.MIN_VALUE);
        s.is("L4", new FaultLoom().put(2, 4, 0, 0), -1);
        s.is("L-1", new FaultLoom().put(2, -1, 0, 0), -1);
    }

    private static void singlesAndDoubles(Sentences s) {
        s.of(TERMS, "F0 .. F3 singles, D0 .. D3 doubles");
        for (int r = 0; r < 4; r++) {
            FaultLoom x = Looms.ran(Looms.wide(r, -9), "15 " + r + " " + r, "16 " + r + " " + r);
            s.real("F" + r, x.single(r), -9);
            s.real("D" + r, x.real(r), -9);
        }
        for (int r : new int[] {-1, 4}) {
            s.is("F" + r, new FaultLoom().put(15, r, 0, 0), -1);
            s.is("D" + r, new FaultLoom().put(16, r, 0, 0), -1);
            s.is("of F" + r, new FaultLoom().put(19, 0, r, 0), -1);
            s.is("of D" + r, new FaultLoom().put(20, 0, r, 0), -1);
        }
    }

    private static double toSingle(long value) {
        return Looms.ran(Looms.wide(0, value), "15 0 0").single(0);
    }

    private static double toDouble(long value) {
        return Looms.ran(Looms.wide(0, value), "16 0 0").real(0);
    }

    private static void nearest(Sentences s) {
        s.of(TERMS, "(binary floating numbers of 32 and 64 bits, those nearest to the value, of two as near the one whose last "
            + "bit is 0)");
        s.real("2^24 - 1, all 24 bits", toSingle(16777215), 16777215);
        s.real("2^24 + 1 is between two, down", toSingle(16777217), 16777216);
        s.real("2^24 + 3 is between two, up", toSingle(16777219), 16777220);
        s.real("-2^24 - 1", toSingle(-16777217), -16777216);
        s.real("-2^24 - 3", toSingle(-16777219), -16777220);
        s.real("2^25 + 1 is nearer below", toSingle(33554433), 33554432);
        s.real("2^25 + 3 is nearer above", toSingle(33554435), 33554436);
        s.real("2^62 + 2^38 + 1 is nearer above", toSingle((1L << 62) + (1L << 38) + 1), (double) (1L << 62) + (1L << 39));
        s.real("2^62 + 2^38 is between two, down", toSingle((1L << 62) + (1L << 38)), 1L << 62);
        s.real("2^53 - 1, all 53 bits", toDouble((1L << 53) - 1), 9007199254740991.0);
        s.real("2^53 + 1 is between two, down", toDouble((1L << 53) + 1), 9007199254740992.0);
        s.real("2^53 + 3 is between two, up", toDouble((1L << 53) + 3), 9007199254740996.0);
        s.real("2^54 + 1 is nearer below", toDouble((1L << 54) + 1), 18014398509481984.0);
        s.real("2^54 + 3 is nearer above", toDouble((1L << 54) + 3), 18014398509481988.0);
        s.real("the greatest long, a single", toSingle(Long.MAX_VALUE), 9223372036854775808.0);
        s.real("the greatest long, a double", toDouble(Long.MAX_VALUE), 9223372036854775808.0);
        s.real("a single of a double between two", Looms.ran("2 0 0 16777217", "16 0 0", "20 0 0").single(0), 16777216);
        s.real("a single of a double a half off", Looms.ran("2 0 0 16777219", "16 0 0", "22 0 0", "20 0 0").single(0), 8388610);
    }

    private static void things(Sentences s) {
        s.of(TERMS, "T0 .. T7, each with a THING or NOTHING.");
        for (int r = 0; r < 8; r++) {
            FaultLoom x = Looms.ran("33 " + r + " 14");
            for (int q = 0; q < 8; q++) {
                s.is("T" + q, x.kind(q), q == r ? 14 : -1);
            }
        }
        s.is("T8", new FaultLoom().put(35, 8, 0, 0), -1);
        s.is("T-1", new FaultLoom().put(35, -1, 0, 0), -1);
    }
}
