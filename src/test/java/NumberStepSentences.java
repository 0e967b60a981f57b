/** The program's limits, and the operations 0 to 26: numbers alone. */
final class NumberStepSentences {
    private static final String TERMS = "Terms";
    private static final int LEAST = Integer.MIN_VALUE;
    private static final int GREATEST = Integer.MAX_VALUE;
    private static final long LEAST_LONG = Long.MIN_VALUE;
    private static final long GREATEST_LONG = Long.MAX_VALUE;

    private NumberStepSentences() {
    }

    static void test(Sentences s) {
        program(s);
        constants(s);
        words(s);
        longs(s);
        narrowing(s);
        nextNumbers(s);
        towardsZero(s);
        halves(s);
        restsOfSingles(s);
        restsOfDoubles(s);
        less(s);
    }

    private static void program(Sentences s) {
        s.of(TERMS, "A PROGRAM has at most 150 STEPS, from place 0 on");
        FaultLoom x = new FaultLoom();
        for (int i = 0; i < 150; i++) {
            s.is("step " + i, x.put(1, 0, i, 0), i + 1);
        }
        s.is("one more", x.put(1, 0, 150, 0), -2);
        x.start();
        x.step(1);
        s.is("place 0 is the first", x.word(0), 0);
        x.step(100);
        s.is("place 100", x.word(0), 100);
        s.is("to the last", x.step(49), 1);
        s.is("place 149 is the last", x.word(0), 149);

        s.of(TERMS, "(those that are not named are not looked at)");
        x = Looms.ran("1 5 -7 -2147483648", "3 6 5 2147483647", "27 3 -1 8", "29 5 200 -5", "0 -1 -1 -1", "30 9 9 9");
        s.is("W6", x.word(6), -7);
        s.is("it has ended", x.state(10), 2);
        s.is("at HALT", x.state(2), 4);
    }

    private static void constants(Sentences s) {
        s.of(TERMS, "0 HALT.");
        FaultLoom x = Looms.ran("0", "1 0 1");
        s.is("ended", x.state(10), 2);
        s.is("W0", x.word(0), 0);

        s.of(TERMS, "1 Wa := b.");
        s.is("the least", Looms.ran(Looms.word(7, LEAST)).word(7), LEAST);
        s.is("the greatest", Looms.ran(Looms.word(7, GREATEST)).word(7), GREATEST);

        s.of(TERMS, "2 La := b * 2^32 + c, c without sign.");
        s.is("c of -1", Looms.ran("2 3 0 -1").wide(3), 4294967295L);
        s.is("c, the least", Looms.ran("2 3 0 -2147483648").wide(3), 2147483648L);
        s.is("b and c of -1", Looms.ran("2 3 -1 -1").wide(3), -1);
        s.is("b, the least", Looms.ran("2 3 -2147483648 0").wide(3), LEAST_LONG);
        s.is("the greatest", Looms.ran("2 3 2147483647 -1").wide(3), GREATEST_LONG);

        s.of(TERMS, "3 Wa := Wb.");
        x = Looms.ran(Looms.word(7, LEAST), "3 0 7", "3 7 7");
        s.is("W0", x.word(0), LEAST);
        s.is("W7", x.word(7), LEAST);
    }

    /** W0 after op 0 1 2, W1 and W2 being b and c. */
    private static int ofWords(int op, int b, int c) {
        FaultLoom x = Looms.ran(Looms.word(1, b), Looms.word(2, c), op + " 0 1 2");
        return x.state(10) == 2 ? x.word(0) : -99 - x.state(8);
    }

    private static void words(Sentences s) {
        s.of(TERMS, "4 Wa := Wb + Wc.");
        s.is("3, 4", ofWords(4, 3, 4), 7);
        s.is("the greatest and 1", ofWords(4, GREATEST, 1), LEAST);
        s.is("the least twice", ofWords(4, LEAST, LEAST), 0);
        s.is("into itself", Looms.ran("1 0 5", "4 0 0 0").word(0), 10);

        s.of(TERMS, "5 Wa := Wb - Wc.");
        s.is("3, 4", ofWords(5, 3, 4), -1);
        s.is("the least less 1", ofWords(5, LEAST, 1), GREATEST);
        s.is("0 less the least", ofWords(5, 0, LEAST), LEAST);

        s.of(TERMS, "6 Wa := Wb * Wc.");
        s.is("3, -4", ofWords(6, 3, -4), -12);
        s.is("65536 twice", ofWords(6, 65536, 65536), 0);
        s.is("the least by -1", ofWords(6, LEAST, -1), LEAST);
        s.is("the greatest twice", ofWords(6, GREATEST, GREATEST), 1);

        s.of(TERMS, "7 Wa := Wb / Wc, towards 0.");
        s.is("7 by 2", ofWords(7, 7, 2), 3);
        s.is("-7 by 2", ofWords(7, -7, 2), -3);
        s.is("7 by -2", ofWords(7, 7, -2), -3);
        s.is("-7 by -2", ofWords(7, -7, -2), 3);
        s.is("-1 by 2", ofWords(7, -1, 2), 0);
        s.is("the least by -1", ofWords(7, LEAST, -1), LEAST);

        s.of(TERMS, "8 Wa := what 7 leaves, with Wb's sign.");
        s.is("7 by 2", ofWords(8, 7, 2), 1);
        s.is("-7 by 2", ofWords(8, -7, 2), -1);
        s.is("7 by -2", ofWords(8, 7, -2), 1);
        s.is("-7 by -2", ofWords(8, -7, -2), -1);
        s.is("the least by -1", ofWords(8, LEAST, -1), 0);
        s.is("the greatest by the least", ofWords(8, GREATEST, LEAST), GREATEST);
    }

    private static long ofLongs(int op, long b, long c) {
        FaultLoom x = Looms.ran(Looms.wide(1, b), Looms.wide(2, c), op + " 0 1 2");
        return x.state(10) == 2 ? x.wide(0) : -99 - x.state(8);
    }

    private static void longs(Sentences s) {
        s.of(TERMS, "9 La := Lb + Lc.");
        s.is("2^32 and -1", ofLongs(9, 1L << 32, -1), 4294967295L);
        s.is("the greatest and 1", ofLongs(9, GREATEST_LONG, 1), LEAST_LONG);

        s.of(TERMS, "10 La := Lb * Lc.");
        s.is("2^31 twice", ofLongs(10, 1L << 31, 1L << 31), 1L << 62);
        s.is("2^32 twice", ofLongs(10, 1L << 32, 1L << 32), 0);
        s.is("the least by -1", ofLongs(10, LEAST_LONG, -1), LEAST_LONG);

        s.of(TERMS, "11, 12: as 7, 8 with longs.");
        s.is("-7 by 2", ofLongs(11, -7, 2), -3);
        s.is("7 by -2", ofLongs(11, 7, -2), -3);
        s.is("2^40 by -2^32", ofLongs(11, 1L << 40, -(1L << 32)), -256);
        s.is("-7 by 2 leaves", ofLongs(12, -7, 2), -1);
        s.is("7 by -2 leaves", ofLongs(12, 7, -2), 1);
        s.is("-2^40 - 5 by 2^32 leaves", ofLongs(12, -(1L << 40) - 5, 1L << 32), -5);

        s.of(TERMS, "(They wrap.)");
        s.is("words, the sum", ofWords(4, LEAST, -1), GREATEST);
        s.is("words, the difference", ofWords(5, GREATEST, -1), LEAST);
        s.is("words, the product", ofWords(6, 1 << 30, 4), 0);
        s.is("words, the quotient", ofWords(7, LEAST, -1), LEAST);
        s.is("longs, the sum", ofLongs(9, LEAST_LONG, -1), GREATEST_LONG);
        s.is("longs, the product", ofLongs(10, 1L << 62, 4), 0);
        s.is("longs, the quotient", ofLongs(11, LEAST_LONG, -1), LEAST_LONG);
        s.is("longs, what it leaves", ofLongs(12, LEAST_LONG, -1), 0);
    }

    private static void narrowing(Sentences s) {
        s.of(TERMS, "13 La := Wb.");
        s.is("-1", Looms.ran("1 7 -1", "13 3 7").wide(3), -1);
        s.is("the least", Looms.ran(Looms.word(7, LEAST), "13 3 7").wide(3), -2147483648L);

        s.of(TERMS, "14 Wa := Lb's lowest 32 bits.");
        s.is("2^32", Looms.ran("1 7 5", Looms.wide(3, 1L << 32), "14 7 3").word(7), 0);
        s.is("2^31", Looms.ran(Looms.wide(3, 1L << 31), "14 7 3").word(7), LEAST);
        s.is("-2^32 - 1", Looms.ran(Looms.wide(3, -(1L << 32) - 1), "14 7 3").word(7), -1);
        s.is("the greatest", Looms.ran(Looms.wide(3, GREATEST_LONG), "14 7 3").word(7), -1);
    }

    private static void nextNumbers(Sentences s) {
        s.of(TERMS, "15 Fa := the single next to Lb.");
        s.real("2^24 + 1", Looms.ran("2 0 0 16777217", "15 0 0").single(0), 16777216);
        s.real("the least", Looms.ran(Looms.wide(0, LEAST_LONG), "15 0 0").single(0), -9223372036854775808.0);
        s.real("the greatest below 2^63 - 2^38", Looms.ran(Looms.wide(0, GREATEST_LONG - (1L << 38)), "15 0 0").single(0),
            9223371487098961920.0);
        s.of(TERMS, "16 Da := the double next to Lb.");
        s.real("2^53 + 1", Looms.ran(Looms.wide(0, (1L << 53) + 1), "16 0 0").real(0), 9007199254740992.0);
        s.real("2^24 + 1", Looms.ran("2 0 0 16777217", "16 0 0").real(0), 16777217);
        s.real("the greatest below 2^63 - 2^9", Looms.ran(Looms.wide(0, GREATEST_LONG - 512), "16 0 0").real(0),
            9223372036854774784.0);
        s.of(TERMS, "19 Da := Fb.");
        s.real("2^24 + 1 as a single", Looms.ran("2 0 0 16777217", "15 0 0", "19 3 0").real(3), 16777216);
        s.real("a half", Looms.ran("2 0 0 1", "15 0 0", "21 0 0", "19 3 0").real(3), 0.5);
        s.of(TERMS, "20 Fa := the single next to Db.");
        s.real("2^24 + 3 between two", Looms.ran("2 0 0 16777219", "16 0 0", "20 3 0").single(3), 16777220);
        FaultLoom x = halved(1, 150, 22, "20 3 1");
        s.real("2^-150 is between 0 and the least single", x.single(3), 0);
        x = halved(3, 150, 22, "20 3 1");
        s.real("3 * 2^-150 is between two", x.single(3), 2 * (double) Float.MIN_VALUE);
        x = halved((1L << 40) + 1, 190, 22, "20 3 1");
        s.real("a little over 2^-150", x.single(3), Float.MIN_VALUE);
        x = halved(-1, 1075, 22, "20 3 1");
        s.real("-0", x.single(3), -0.0);
    }

    /** F1 and D1 are a long, the one that op halves so many times; then the steps are done. */
    private static FaultLoom halved(long from, int times, int op, String... then) {
        FaultLoom x = Looms.loom(Looms.join(new String[] {Looms.wide(1, from), "15 1 1", "16 1 1", Looms.word(5, times),
            "1 6 1", op + " 1 1", "5 5 5 6", "28 5 9", "27 5"}, then));
        x.start();
        for (int i = 0; i < 60 && x.step(100) == 0; i++) {
            // until it has ended
        }
        return x;
    }

    private static void towardsZero(Sentences s) {
        s.of(TERMS, "17 La := Fb towards 0, the nearest long if it is beyond all.");
        s.is("3.5", halved(7, 1, 21, "17 3 1").wide(3), 3);
        s.is("-3.5", halved(-7, 1, 21, "17 3 1").wide(3), -3);
        s.is("-0.5", halved(-1, 1, 21, "17 3 1").wide(3), 0);
        s.is("2^63 is beyond all", Looms.ran(Looms.wide(0, GREATEST_LONG), "15 0 0", "17 3 0").wide(3), GREATEST_LONG);
        s.is("-2^63 is none beyond", Looms.ran(Looms.wide(0, LEAST_LONG), "15 0 0", "17 3 0").wide(3), LEAST_LONG);
        s.is("2^63 - 2^39", Looms.ran(Looms.wide(0, GREATEST_LONG - (1L << 39) + 1), "15 0 0", "17 3 0").wide(3),
            GREATEST_LONG - (1L << 39) + 1);

        s.of(TERMS, "18 Wa := Db towards 0, the nearest word if it is beyond all.");
        s.is("3.5", halved(7, 1, 22, "18 3 1").word(3), 3);
        s.is("-3.5", halved(-7, 1, 22, "18 3 1").word(3), -3);
        s.is("2^31 - 1", Looms.ran("2 0 0 2147483647", "16 0 0", "18 3 0").word(3), GREATEST);
        s.is("2^31 - 0.5", halved((1L << 32) - 1, 1, 22, "18 3 1").word(3), GREATEST);
        s.is("2^31 is beyond all", Looms.ran(Looms.wide(0, 1L << 31), "16 0 0", "18 3 0").word(3), GREATEST);
        s.is("2^32 + 5 is beyond all", Looms.ran(Looms.wide(0, (1L << 32) + 5), "16 0 0", "18 3 0").word(3), GREATEST);
        s.is("-2^31", Looms.ran(Looms.wide(0, -(1L << 31)), "16 0 0", "18 3 0").word(3), LEAST);
        s.is("-2^31 - 1 is beyond all", Looms.ran(Looms.wide(0, -(1L << 31) - 1), "16 0 0", "18 3 0").word(3), LEAST);
        s.is("the least long is beyond all", Looms.ran(Looms.wide(0, LEAST_LONG), "16 0 0", "18 3 0").word(3), LEAST);
    }

    private static void halves(Sentences s) {
        s.of(TERMS, "21 Fa := Fb / 2.");
        s.real("-5", Looms.ran(Looms.wide(0, -5), "15 0 0", "21 3 0").single(3), -2.5);
        s.real("the least single", halved(1, 149, 21).single(1), Float.MIN_VALUE);
        s.real("the half of the least is between two, 0", halved(1, 150, 21).single(1), 0);
        s.real("three halves of the least are between two, up", halved(3, 150, 21).single(1), 2 * (double) Float.MIN_VALUE);
        s.real("-0", halved(-1, 150, 21).single(1), -0.0);

        s.of(TERMS, "22 Da := Db / 2.");
        s.real("-5", Looms.ran(Looms.wide(0, -5), "16 0 0", "22 3 0").real(3), -2.5);
        s.real("2^-150", halved(1, 150, 22).real(1), Float.MIN_VALUE / 2.0);
        s.real("the least double", halved(1, 1074, 22).real(1), Double.MIN_VALUE);
        s.real("the half of the least is between two, 0", halved(1, 1075, 22).real(1), 0);
        s.real("three halves of the least are between two, up", halved(3, 1075, 22).real(1), 2 * Double.MIN_VALUE);
        s.real("-0", halved(-1, 1075, 22).real(1), -0.0);
    }

    /** F0 after 23 0 1 2: F1 is a long, F2 is one halved h times. */
    private static double restOfSingles(long b, long c, int h) {
        return Looms.ran(Looms.join(Looms.join(new String[] {Looms.wide(1, b), Looms.wide(2, c), "15 1 1", "15 2 2"},
            Looms.times(h, "21 2 2")), "23 0 1 2")).single(0);
    }

    private static void restsOfSingles(Sentences s) {
        s.of(TERMS, "23 Fa := Fb less as many Fc as go in it towards 0 (exactly; with Fb's sign).");
        s.real("7 by 2", restOfSingles(7, 2, 0), 1);
        s.real("-7 by 2", restOfSingles(-7, 2, 0), -1);
        s.real("7 by -2", restOfSingles(7, -2, 0), 1);
        s.real("-7 by -2", restOfSingles(-7, -2, 0), -1);
        s.real("as many as go in it", restOfSingles(6, 2, 0), 0);
        s.real("none is left of -6", restOfSingles(-6, 2, 0), -0.0);
        s.real("0 by 2", restOfSingles(0, 2, 0), 0);
        s.real("less than one", restOfSingles(3, 5, 0), 3);
        s.real("itself", restOfSingles(5, 5, 0), 0);
        s.real("2^63 by 3, exactly", restOfSingles(GREATEST_LONG, 3, 0), 2);
        s.real("2^62 by 7 / 2^20, exactly", restOfSingles(1L << 62, 7, 20), 2 / 1048576.0);
        s.real("16777215 by 7 / 2^3, exactly", restOfSingles(16777215, 7, 3), 0);
        s.real("16777213 by 11 / 2^3, exactly", restOfSingles(16777213, 11, 3), (16777213L * 8 % 11) / 8.0);
        s.real("-1 by 3 / 4", restOfSingles(-1, 3, 2), -0.25);
        s.real("-1 by 2", restOfSingles(-1, 2, 0), -1);
        s.real("-0.5 by 3 / 8", Looms.ran("2 1 -1 -1", "15 1 1", "21 1 1", "2 2 0 3", "15 2 2", "21 2 2", "21 2 2", "21 2 2",
            "23 0 1 2").single(0), -0.125);
        s.real("itself is Fc", Looms.ran("2 0 0 9", "15 0 0", "23 0 0 0").single(0), 0);
    }

    /** D0 after 24 0 1 2: D1 is a long, D2 is one halved h times. */
    private static double restOfDoubles(long b, long c, int h) {
        FaultLoom x = halved(c, h, 22, Looms.wide(2, b), "16 2 2", "24 0 2 1");
        return x.state(10) == 2 ? x.real(0) : -99;
    }

    private static void restsOfDoubles(Sentences s) {
        s.of(TERMS, "24 likewise with doubles.");
        s.real("7 by 2 / 2", restOfDoubles(7, 2, 1), 0);
        s.real("7.5 is no word", restOfDoubles(8, 15, 1), 0.5);
        s.real("-8 by 7.5", restOfDoubles(-8, 15, 1), -0.5);
        s.real("8 by -7.5", restOfDoubles(8, -15, 1), 0.5);
        s.real("-8 by -0.5", restOfDoubles(-8, -1, 1), -0.0);
        s.real("-1 by 3 / 4", restOfDoubles(-1, 3, 2), -0.25);
        s.real("-0.5 by 3 / 8", Looms.ran("2 1 -1 -1", "16 1 1", "22 1 1", "2 2 0 3", "16 2 2", "22 2 2", "22 2 2", "22 2 2",
            "24 0 1 2").real(0), -0.125);
        s.real("2^53 - 1 by 3 / 2, exactly", restOfDoubles((1L << 53) - 1, 3, 1), 1);
        s.real("2^63 by 3 / 2, exactly", restOfDoubles(GREATEST_LONG, 3, 1), 0.5);
        s.real("2^62 by 3 * 2^-1074, exactly", restOfDoubles(1L << 62, 3, 1074), Double.MIN_VALUE);
        s.real("-2^63 by 3 * 2^-1074, exactly", restOfDoubles(LEAST_LONG, 3, 1074), -2 * Double.MIN_VALUE);
        s.real("2^63 by the least", restOfDoubles(GREATEST_LONG, 1, 1074), 0);
    }

    private static int ofDoubles(long b, long c, int halvings) {
        FaultLoom x = halved(b, halvings, 22, Looms.wide(2, c), "16 2 2", "1 0 9", "26 0 1 2");
        return x.state(10) == 2 ? x.word(0) : -99;
    }

    private static void less(Sentences s) {
        s.of(TERMS, "25 Wa := 1 if Wb < Wc, else 0.");
        s.is("3, 4", ofWords(25, 3, 4), 1);
        s.is("4, 4", ofWords(25, 4, 4), 0);
        s.is("5, 4", ofWords(25, 5, 4), 0);
        s.is("the least, the greatest", ofWords(25, LEAST, GREATEST), 1);
        s.is("the greatest, the least", ofWords(25, GREATEST, LEAST), 0);
        s.is("W0 becomes 0", Looms.ran("1 0 9", "25 0 1 2").word(0), 0);

        s.of(TERMS, "26 likewise with Db, Dc.");
        s.is("3.5, 4", ofDoubles(7, 4, 1), 1);
        s.is("4, 4", ofDoubles(8, 4, 1), 0);
        s.is("4.5, 4", ofDoubles(9, 4, 1), 0);
        s.is("the least double, 0", ofDoubles(1, 0, 1074), 0);
        s.is("the least double below 0, 0", ofDoubles(-1, 0, 1074), 1);
        s.is("-0, 0", ofDoubles(-1, 0, 1075), 0);
    }
}
