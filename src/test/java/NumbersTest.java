/** Promises 7 to 10: word, wide, single and real, by the operations 1 to 26. */
public final class NumbersTest {
    private static final Due DUE = new Due();
    private static final int[] WORDS = {0, 1, -1, 2, -2, 7, -7, 10, 46341, -65536, Integer.MAX_VALUE, Integer.MIN_VALUE};
    private static final long[] LONGS = {0, 1, -1, 3, -3, 10, 1L << 32, -(1L << 32), 3037000500L, (1L << 53) + 1,
        (1L << 24) + 1, (1L << 24) + 3, 0xFFFFFFFFL, Long.MAX_VALUE, Long.MIN_VALUE, Long.MAX_VALUE - 511,
        (1L << 62) + (1L << 38), (1L << 62) + (1L << 38) + 1, (1L << 62) + 3 * (1L << 38)};

    public static void main(String[] args) {
        noSuchRegister();
        words();
        longs();
        conversions();
        halves();
        restsOfSingles();
        restsOfDoubles();
        farRests();
        zeros();
        DUE.end();
    }

    private static void noSuchRegister() {
        FaultLoom x = Due.ran(Due.s(1, 0, 5, 0), Due.s(1, 7, 6, 0), Due.wide(0, 7), Due.wide(3, 8), Due.s(15, 0, 0, 0),
            Due.s(15, 3, 3, 0), Due.s(16, 0, 0, 0), Due.s(16, 3, 3, 0));
        DUE.is("W0", x.word(0), 5);
        DUE.is("W7", x.word(7), 6);
        DUE.is("L0", x.wide(0), 7);
        DUE.is("L3", x.wide(3), 8);
        DUE.real("F0", x.single(0), 7);
        DUE.real("F3", x.single(3), 8);
        DUE.real("D0", x.real(0), 7);
        DUE.real("D3", x.real(3), 8);
        for (int r : new int[] {-1, 8, Integer.MIN_VALUE, Integer.MAX_VALUE}) {
            DUE.is("word(" + r + ")", x.word(r), 0);
            DUE.is("wide(" + r + ")", x.wide(r), 0);
            DUE.real("single(" + r + ")", x.single(r), 0);
            DUE.real("real(" + r + ")", x.real(r), 0);
        }
        DUE.is("wide(4)", x.wide(4), 0);
        DUE.real("single(4)", x.single(4), 0);
        DUE.real("real(4)", x.real(4), 0);
    }

    private static int ofWords(int op, int b, int c) {
        FaultLoom x = Due.ran(Due.s(1, 1, b, 0), Due.s(1, 2, c, 0), Due.s(1, 0, 99, 0), Due.s(op, 0, 1, 2));
        return x.word(0);
    }

    private static void words() {
        for (int b : WORDS) {
            DUE.is("3 " + b, ofWords(3, b, 0), b);
            for (int c : WORDS) {
                String of = " of " + b + ", " + c;
                DUE.is("4" + of, ofWords(4, b, c), b + c);
                DUE.is("5" + of, ofWords(5, b, c), b - c);
                DUE.is("6" + of, ofWords(6, b, c), b * c);
                DUE.is("7" + of, ofWords(7, b, c), c == 0 ? 99 : b / c);
                DUE.is("8" + of, ofWords(8, b, c), c == 0 ? 99 : b % c);
                DUE.is("25" + of, ofWords(25, b, c), b < c ? 1 : 0);
            }
        }
        DUE.is("least by -1", ofWords(7, Integer.MIN_VALUE, -1), Integer.MIN_VALUE);
        DUE.is("-7 by 2", ofWords(7, -7, 2), -3);
        DUE.is("-7 by 2 leaves", ofWords(8, -7, 2), -1);
        DUE.is("7 by -2 leaves", ofWords(8, 7, -2), 1);
    }

    private static long ofLongs(int op, long b, long c) {
        FaultLoom x = Due.ran(Due.wide(1, b), Due.wide(2, c), Due.wide(0, 99), Due.s(op, 0, 1, 2));
        return x.wide(0);
    }

    private static void longs() {
        DUE.is("2 of -1, -1", Due.ran(Due.s(2, 0, -1, -1)).wide(0), -1);
        DUE.is("2 of 0, -1", Due.ran(Due.s(2, 0, 0, -1)).wide(0), 0xFFFFFFFFL);
        DUE.is("2 of 1, 2", Due.ran(Due.s(2, 0, 1, 2)).wide(0), 4294967298L);
        DUE.is("2 of least, 0", Due.ran(Due.s(2, 0, Integer.MIN_VALUE, 0)).wide(0), Long.MIN_VALUE);
        for (long b : LONGS) {
            for (long c : LONGS) {
                String of = " of " + b + ", " + c;
                DUE.is("9" + of, ofLongs(9, b, c), b + c);
                DUE.is("10" + of, ofLongs(10, b, c), b * c);
                DUE.is("11" + of, ofLongs(11, b, c), c == 0 ? 99 : b / c);
                DUE.is("12" + of, ofLongs(12, b, c), c == 0 ? 99 : b % c);
            }
        }
    }

    private static void conversions() {
        for (int b : WORDS) {
            DUE.is("13 of " + b, Due.ran(Due.s(1, 1, b, 0), Due.s(13, 0, 1, 0)).wide(0), b);
        }
        for (long b : LONGS) {
            FaultLoom x = Due.ran(Due.wide(1, b), Due.s(14, 0, 1, 0), Due.s(15, 1, 1, 0), Due.s(16, 1, 1, 0),
                Due.s(17, 2, 1, 0), Due.s(18, 2, 1, 0), Due.s(19, 2, 1, 0), Due.s(20, 2, 1, 0));
            DUE.is("14 of " + b, x.word(0), (int) b);
            DUE.real("15 of " + b, x.single(1), (float) b);
            DUE.real("16 of " + b, x.real(1), (double) b);
            DUE.is("17 of " + b, x.wide(2), (long) (float) b);
            DUE.is("18 of " + b, x.word(2), (int) (double) b);
            DUE.real("19 of " + b, x.real(2), (double) (float) b);
            DUE.real("20 of " + b, x.single(2), (float) (double) b);
        }
        DUE.real("2^24 + 1 goes down to even", Due.ran(Due.wide(0, 16777217), Due.s(15, 0, 0, 0)).single(0), 16777216);
        DUE.real("2^24 + 3 goes up to even", Due.ran(Due.wide(0, 16777219), Due.s(15, 0, 0, 0)).single(0), 16777220);
        FaultLoom x = Due.ran(Due.wide(0, -7), Due.s(15, 0, 0, 0), Due.s(16, 0, 0, 0), Due.s(21, 0, 0, 0),
            Due.s(22, 0, 0, 0), Due.s(17, 0, 0, 0), Due.s(18, 0, 0, 0));
        DUE.is("-3.5 towards 0, a long", x.wide(0), -3);
        DUE.is("-3.5 towards 0, a word", x.word(0), -3);
    }

    /** Down to the least number above 0 and to 0, whose sign stays. */
    private static void halves() {
        FaultLoom x = Due.loom(Due.wide(0, 5), Due.s(15, 0, 0, 0), Due.wide(1, -3), Due.s(16, 1, 1, 0),
            Due.s(21, 0, 0, 0), Due.s(22, 1, 1, 0), Due.s(27, 4, 0, 0));
        x.start();
        x.step(4);
        float f = 5;
        double d = -3;
        DUE.real("F0", x.single(0), f);
        DUE.real("D1", x.real(1), d);
        int halvings = 0;
        for (int i = 0; i < 36; i++) {
            x.step(99);
            for (int k = 0; k < 33; k++) {
                f = f / 2;
                d = d / 2;
                halvings++;
            }
            DUE.real("F0 after " + halvings, x.single(0), f);
            DUE.real("D1 after " + halvings, x.real(1), d);
        }
    }

    private static FaultLoom rest(long b, int bHalves, long c, int cHalves) {
        FaultLoom x = Due.loom(Due.wide(1, b), Due.wide(2, c), Due.s(15, 1, 1, 0), Due.s(15, 2, 2, 0), Due.s(16, 1, 1, 0),
            Due.s(16, 2, 2, 0));
        for (int i = 0; i < bHalves; i++) {
            x.put(21, 1, 1, 0);
            x.put(22, 1, 1, 0);
        }
        for (int i = 0; i < cHalves; i++) {
            x.put(21, 2, 2, 0);
            x.put(22, 2, 2, 0);
        }
        x.put(23, 0, 1, 2);
        x.put(24, 0, 1, 2);
        x.put(26, 6, 1, 2);
        x.start();
        x.step(100);
        return x;
    }

    private static final int[] HALVES = {0, 1, 5, 21};

    private static void restsOfSingles() {
        for (long b : LONGS) {
            for (long c : LONGS) {
                for (int h : HALVES) {
                    if (c != 0) {
                        FaultLoom x = rest(b, 0, c, h);
                        float g = (float) c / (1 << h);
                        DUE.real("23 of " + b + ", " + c + " / 2^" + h, x.single(0), (float) b % g);
                    }
                }
            }
        }
    }

    private static void restsOfDoubles() {
        for (long b : LONGS) {
            for (long c : LONGS) {
                for (int h : HALVES) {
                    if (c != 0) {
                        FaultLoom x = rest(b, h, c, 3);
                        double d = (double) b / (1 << h);
                        double e = (double) c / 8;
                        DUE.real("24 of " + b + " / 2^" + h + ", " + c + " / 8", x.real(0), d % e);
                        DUE.is("26 of " + d + ", " + e, x.word(6), d < e ? 1 : 0);
                    }
                }
            }
        }
    }

    /** The greatest numbers by numbers near the least above 0, of which a few bits are left. */
    private static void farRests() {
        for (int halvings : new int[] {1, 1000, 1114, 1119, 1123, 1124}) {
            farRest(Long.MIN_VALUE + 12345, 1234567891234567L, halvings);
        }
        farRest(Long.MIN_VALUE, 1, 1074);
        farRest(Long.MAX_VALUE, -1, 1074);
        farRest(Long.MAX_VALUE, 5, 1074);
    }

    private static void farRest(long b, long c, int halvings) {
        double d = b;
        double e = c;
        for (int i = 0; i < halvings; i++) {
            e = e / 2;
        }
        FaultLoom x = Due.loom(Due.wide(1, b), Due.wide(2, c), Due.s(16, 1, 1, 0),
            Due.s(16, 2, 2, 0), Due.s(1, 0, halvings, 0), Due.s(1, 1, 1, 0), Due.s(22, 2, 2, 0), Due.s(5, 0, 0, 1),
            Due.s(28, 0, 10, 0), Due.s(27, 6, 0, 0), Due.s(24, 0, 1, 2), Due.s(24, 3, 2, 1));
        x.start();
        for (int i = 0; i < 60 && x.step(100) == 0; i++) {
            // until it has ended
        }
        DUE.is("ended", x.state(10), 2);
        DUE.real("D2 after " + halvings, x.real(2), e);
        DUE.real("24 after " + halvings, x.real(0), d % e);
        DUE.real("24 the other way after " + halvings, x.real(3), e % d);
    }

    private static void zeros() {
        for (int op : new int[] {7, 8, 11, 12, 23, 24}) {
            FaultLoom x = Due.ran(Due.wide(1, 5), Due.s(1, 1, 5, 0), Due.s(15, 1, 1, 0), Due.s(16, 1, 1, 0), Due.s(op, 1, 1, 2));
            DUE.is("failure of " + op, x.state(8), 6);
            DUE.is("W1 after " + op, x.word(1), 5);
            DUE.is("L1 after " + op, x.wide(1), 5);
            DUE.real("F1 after " + op, x.single(1), 5);
            DUE.real("D1 after " + op, x.real(1), 5);
        }
        minusZero();
    }

    /** -1 halved until it is -0: that is 0, too. */
    private static void minusZero() {
        FaultLoom x = Due.loom(Due.wide(1, -1), Due.s(15, 1, 1, 0), Due.s(19, 1, 1, 0), Due.s(21, 1, 1, 0),
            Due.s(19, 2, 1, 0), Due.s(18, 3, 2, 0), Due.s(26, 4, 1, 2), Due.s(24, 1, 1, 2), Due.s(27, 3, 0, 0));
        x.start();
        for (int i = 0; i < 20 && x.step(100) == 0; i++) {
            // until it has stopped
        }
        DUE.is("stopped", x.state(10), 3);
        DUE.is("failure", x.state(8), 6);
        DUE.real("F1", x.single(1), -0.0);
        DUE.real("D2", x.real(2), -0.0);
        DUE.is("W3", x.word(3), 0);
        DUE.is("D1 < D2", x.word(4), 0);
    }
}
