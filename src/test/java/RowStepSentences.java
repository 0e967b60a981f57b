/** The operations 39 to 66: what rows and knots have. */
final class RowStepSentences {
    private static final String TERMS = "Terms";
    private static final int LEAST = Integer.MIN_VALUE;
    private static final int GREATEST = Integer.MAX_VALUE;
    private static final String[] GETS = {"39 Wa, of FLAGS", "40 Wa, of BYTES", "41 Wa, of CHARS", "42 Wa, of SHORTS",
        "43 Wa, of WORDS", "44 La, of LONGS", "45 Fa, of SINGLES", "46 Da, of DOUBLES", "47 Ta, of KNOTS", "48 Ta, of a GRID."};

    private RowStepSentences() {
    }

    static void test(Sentences s) {
        for (int i = 0; i < GETS.length; i++) {
            s.of(TERMS, GETS[i]);
            takesKinds(s, 39 + i);
        }
        gets(s);
        puts(s);
        narrowPuts(s);
        putThings(s);
        tags(s);
        weights(s);
        nexts(s);
        turns(s);
    }

    /** The failure of op by T0 of a kind with 2 places, at place W1. */
    private static int at(int op, int kind, int place) {
        return Looms.failure("1 7 2", Looms.word(1, place), kind < 0 ? "35 0" : Looms.thing(0, kind), op + " 3 0 1");
    }

    private static void takesKinds(Sentences s, int op) {
        int row = (op - 39) % 10 == 9 ? 10 : (op - 39) % 10;
        for (int kind = 0; kind <= 15; kind++) {
            s.is(op + " of kind " + kind, at(op, kind, 1), kind == row || row == 8 && kind == 9 ? 0 : 4);
        }
        s.is(op + " of NOTHING", at(op, -1, 0), 1);
        s.is(op + " at 0", at(op, row, 0), 0);
        s.is(op + " at -1", at(op, row, -1), 2);
        s.is(op + " behind the last", at(op, row, 2), 2);
        s.is(op + " at the least", at(op, row, LEAST), 2);
        s.is(op + " at the greatest", at(op, row, GREATEST), 2);
    }

    /** Each place of 12 has a number of its own. */
    private static void gets(Sentences s) {
        s.of(TERMS, "GET, what is at place Wc of the row Tb");
        for (int place : new int[] {0, 1, 11}) {
            FaultLoom x = Looms.ran("1 7 12", Looms.word(1, place), "1 2 101", Looms.wide(0, -7), "15 0 0", "16 0 0",
                "31 1 4 7", "31 2 5 7", "31 3 6 7", "31 4 7 7", "31 5 8 7", "33 0 11", "53 2 1 1", "54 0 2 1", "55 0 3 1",
                "56 0 4 1", "57 0 5 1", "43 3 1 1", "44 1 2 1", "45 1 3 1", "46 1 4 1", "47 6 5 1");
            s.is("a word", x.word(3), 101);
            s.is("a long", x.wide(1), -7);
            s.real("a single", x.single(1), -7);
            s.real("a double", x.real(1), -7);
            s.is("a knot", x.same(0, 6), true);
            for (int i = 0; i < 12; i++) {
                s.is("WORDS, place " + i, x.cell(1, i), i == place ? 101 : 0);
                s.is("LONGS, place " + i, x.cell(2, i), i == place ? -7 : 0);
                s.real("SINGLES, place " + i, x.point(3, i), i == place ? -7 : 0);
                s.real("DOUBLES, place " + i, x.point(4, i), i == place ? -7 : 0);
                s.is("KNOTS, place " + i, x.cell(5, i), i == place ? 11 : -1);
            }
        }
        s.is("NOTHING is got", Looms.ran("1 7 1", "31 0 8 7", "33 1 11", "47 1 0 0").kind(1), -1);
        s.is("into Tb itself", Looms.ran("1 7 1", "32 0 7 7", "48 0 0 0").kind(0), 4);
        s.is("into Wc itself", Looms.ran("1 7 1", "1 1 8", "31 0 4 7", "53 1 0 0", "43 0 0 0").word(0), 8);
    }

    private static void puts(Sentences s) {
        s.of(TERMS, "PUT it there: 49 to 58, likewise");
        for (int op = 49; op <= 58; op++) {
            takesKinds(s, op);
        }
    }

    /** What op puts of a word into T0, a row with one place. */
    private static long put(int op, int value) {
        return Looms.ran("1 7 1", Looms.word(1, value), "31 0 " + (op - 49) + " 7", op + " 1 0 0").cell(0, 0);
    }

    private static void narrowPuts(Sentences s) {
        s.of(TERMS, "(49 Wa's lowest bit, 50 its lowest 8, 51 and 52 its lowest 16 bits");
        s.is("49 of 1", put(49, 1), 1);
        s.is("49 of -2", put(49, -2), 0);
        s.is("49 of the least", put(49, LEAST), 0);
        s.is("49 of the greatest", put(49, GREATEST), 1);
        s.is("50 of 128", put(50, 128), -128);
        s.is("50 of 255", put(50, 255), -1);
        s.is("50 of 256", put(50, 256), 0);
        s.is("50 of the greatest", put(50, GREATEST), -1);
        s.is("51 of 65536", put(51, 65536), 0);
        s.is("51 of -1", put(51, -1), 65535);
        s.is("51 of 32768", put(51, 32768), 32768);
        s.is("51 of the greatest", put(51, GREATEST), 65535);
        s.is("52 of 32768", put(52, 32768), -32768);
        s.is("52 of 65535", put(52, 65535), -1);
        s.is("52 of 65536", put(52, 65536), 0);
        s.is("52 of the greatest", put(52, GREATEST), -1);
    }

    private static void putThings(Sentences s) {
        s.of(TERMS, "57 Ta, a knot or NOTHING");
        FaultLoom x = Looms.loom("1 7 1", "31 0 8 7", "33 1 13", "57 1 0 0", "57 2 0 0");
        x.start();
        x.step(4);
        s.is("a knot", x.cell(0, 0), 13);
        x.step(1);
        s.is("NOTHING", x.cell(0, 0), -1);
        s.is("no failure", x.state(7), 0);
        s.is("a slip", Looms.failure("1 7 1", "31 0 8 7", "33 1 14", "57 1 0 0"), 4);
        s.is("a fault", Looms.failure("1 7 1", "31 0 8 7", "67 1 0 2", "57 1 0 0"), 4);

        s.of(TERMS, "58 Ta, a row of WORDS or NOTHING");
        x = Looms.loom("1 7 1", "32 0 7 7", "1 7 12", "31 1 4 7", "58 1 0 0", "58 2 0 0");
        x.start();
        x.step(5);
        s.is("a row of 12", x.cell(0, 0), 12);
        x.step(1);
        s.is("NOTHING", x.cell(0, 0), -1);
        s.is("no failure", x.state(7), 0);
        s.is("a row of LONGS", Looms.failure("1 7 1", "32 0 7 7", "31 1 5 7", "58 1 0 0"), 4);
        s.is("itself", Looms.failure("1 7 1", "32 0 7 7", "58 0 0 0"), 4);
    }

    private static void takesKnots(Sentences s, String step, boolean slips) {
        for (int kind = -1; kind <= 15; kind++) {
            boolean fits = kind >= 11 && kind <= 13 || slips && kind == 14;
            String maker = kind < 0 ? "35 0" : Looms.thing(0, kind);
            s.is(step + " of kind " + kind, Looms.failure(maker, step), fits ? 0 : kind < 0 ? 1 : 4);
        }
    }

    private static void tags(Sentences s) {
        s.of(TERMS, "59 Wa := Tb's TAG (of a knot).");
        takesKnots(s, "59 3 0", false);
        s.is("the least", Looms.ran(Looms.word(7, LEAST), "33 1 13 7", "59 5 1").word(5), LEAST);
        s.is("the greatest", Looms.ran(Looms.word(7, GREATEST), "33 1 11 7", "59 5 1").word(5), GREATEST);

        s.of(TERMS, "60 Tb's TAG := Wa.");
        takesKnots(s, "60 3 0", false);
        s.is("the least", Looms.ran(Looms.word(7, LEAST), "33 0 12", "60 7 0").field(0, 0), LEAST);
        s.is("the greatest", Looms.ran(Looms.word(7, GREATEST), "33 0 12", "60 7 0").field(0, 0), GREATEST);
    }

    private static void weights(Sentences s) {
        s.of(TERMS, "61 La := Tb's WEIGHT.");
        takesKnots(s, "61 3 0", false);
        s.is("0 at first", Looms.ran("2 0 9 9", "33 0 12", "61 0 0").wide(0), 0);

        s.of(TERMS, "62 Tb's WEIGHT := La.");
        takesKnots(s, "62 3 0", false);
        for (long value : new long[] {Long.MIN_VALUE, Long.MAX_VALUE}) {
            FaultLoom x = Looms.ran(Looms.wide(0, value), "33 0 11", "62 0 0", "61 3 0");
            s.is("WEIGHT", x.field(0, 1), value);
            s.is("WEIGHT that was got", x.wide(3), value);
        }
    }

    private static void nexts(Sentences s) {
        s.of(TERMS, "63 Ta := Tb's NEXT.");
        takesKnots(s, "63 3 0", false);
        s.is("NOTHING", Looms.ran("33 0 11", "34 1 0", "63 1 0").kind(1), -1);
        s.is("its own NEXT", Looms.ran("33 0 11", "64 0 0", "63 1 0").same(0, 1), true);
        s.is("into Tb itself", Looms.ran("33 0 11", "33 1 13", "64 1 0", "63 0 0").same(0, 1), true);

        s.of(TERMS, "64 Tb's NEXT := Ta (a knot or NOTHING).");
        takesKnots(s, "64 3 0", false);
        s.is("a knot", Looms.ran("33 0 11", "33 1 13", "64 1 0").field(0, 2), 13);
        s.is("NOTHING", Looms.ran("33 0 11", "64 0 0", "64 1 0").field(0, 2), -1);
        s.is("a slip", Looms.failure("33 0 11", "33 1 14", "64 1 0"), 4);
        s.is("a row", Looms.failure("33 0 11", "31 1 8", "64 1 0"), 4);
    }

    private static void turns(Sentences s) {
        s.of(TERMS, "65 Wa := the TURN of Tb, a knot, by Wc.");
        takesKnots(s, "65 3 0 1", false);
        int[] due = {12, 12, 25};
        for (int kind = 11; kind <= 13; kind++) {
            s.is("kind " + kind, Looms.ran("1 7 5", "1 1 7", Looms.thing(0, kind), "65 1 0 1").word(1), due[kind - 11]);
        }
        s.of(TERMS, "66 Wa := the TURN of Tb, one of the OPS, by Wc.");
        takesKnots(s, "66 3 0 1", true);
        int[] dueOfOps = {12, 12, 25, 35};
        for (int kind = 11; kind <= 14; kind++) {
            s.is("kind " + kind, Looms.ran("1 7 5", "1 1 7", Looms.thing(0, kind), "66 1 0 1").word(1), dueOfOps[kind - 11]);
        }
    }
}
