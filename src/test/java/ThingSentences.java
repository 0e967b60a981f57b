/** The kinds of things, what they have, what they are, and the TURN. */
final class ThingSentences {
    private static final String TERMS = "Terms";
    private static final int LEAST = Integer.MIN_VALUE;
    private static final int GREATEST = Integer.MAX_VALUE;

    private ThingSentences() {
    }

    static void test(Sentences s) {
        narrowRows(s);
        wideRows(s);
        rowsOfThings(s);
        knots(s);
        slipsAndFaults(s);
        kinds(s);
        sameOne(s);
        turns(s);
    }

    /** What a row of a kind has at its place 1 of 2 when the word was put there. */
    private static long kept(int kind, int value) {
        FaultLoom x = Looms.ran("1 7 2", "1 1 1", Looms.word(2, value), "31 0 " + kind + " 7", (49 + kind) + " 2 0 1",
            (39 + kind) + " 3 0 1");
        return x.word(3) == x.cell(0, 1) ? x.cell(0, 1) : Long.MIN_VALUE;
    }

    private static void narrowRows(Sentences s) {
        s.of(TERMS, "0 FLAGS (0 or 1)");
        s.is("0", kept(0, 0), 0);
        s.is("1", kept(0, 1), 1);
        s.is("2", kept(0, 2), 0);
        s.is("-1", kept(0, -1), 1);

        s.of(TERMS, "1 BYTES (-128 .. 127)");
        s.is("127", kept(1, 127), 127);
        s.is("128", kept(1, 128), -128);
        s.is("-128", kept(1, -128), -128);
        s.is("-129", kept(1, -129), 127);

        s.of(TERMS, "2 CHARS (0 .. 65535)");
        s.is("0", kept(2, 0), 0);
        s.is("-1", kept(2, -1), 65535);
        s.is("65535", kept(2, 65535), 65535);
        s.is("65536", kept(2, 65536), 0);

        s.of(TERMS, "3 SHORTS (-32768 .. 32767)");
        s.is("32767", kept(3, 32767), 32767);
        s.is("32768", kept(3, 32768), -32768);
        s.is("-32768", kept(3, -32768), -32768);
        s.is("-32769", kept(3, -32769), 32767);
    }

    private static void wideRows(Sentences s) {
        s.of(TERMS, "4 WORDS, 5 LONGS, 6 SINGLES, 7 DOUBLES");
        s.is("the greatest word", kept(4, GREATEST), GREATEST);
        s.is("the least word", kept(4, LEAST), LEAST);
        for (long value : new long[] {Long.MIN_VALUE, Long.MAX_VALUE, 1L << 32, -1}) {
            FaultLoom x = Looms.ran("1 7 1", Looms.wide(0, value), "31 0 5 7", "54 0 0 0", "44 1 0 0");
            s.is("a long", x.cell(0, 0), value);
            s.is("a long that was got", x.wide(1), value);
        }
        FaultLoom x = Looms.ran("1 7 1", Looms.wide(0, (1L << 53) - 1), "15 0 0", "16 0 0", "31 0 6 7", "31 1 7 7", "55 0 0 0",
            "56 0 1 0", "45 1 0 0", "46 1 1 0");
        s.real("a single has 24 bits", x.point(0, 0), 9007199254740992.0);
        s.real("a double has 53 bits", x.point(1, 0), 9007199254740991.0);
        s.real("a single that was got", x.single(1), 9007199254740992.0);
        s.real("a double that was got", x.real(1), 9007199254740991.0);

        s.of(TERMS, "their places, from 0, have numbers, 0 at first");
        for (int kind = 0; kind <= 7; kind++) {
            x = Looms.ran("1 7 12", "31 0 " + kind + " 7");
            for (int i = 0; i < 12; i++) {
                s.is("a number at place " + i, x.cell(0, i), 0);
                s.real("a broken number at place " + i, x.point(0, i), 0);
            }
            String get = Integer.toString(39 + kind);
            s.is("from 0", Looms.failure("1 7 12", "31 0 " + kind + " 7", get + " 0 0 1"), 0);
            s.is("to 11", Looms.failure("1 7 12", "1 1 11", "31 0 " + kind + " 7", get + " 0 0 1"), 0);
            s.is("not 12", Looms.failure("1 7 12", "1 1 12", "31 0 " + kind + " 7", get + " 0 0 1"), 2);
            s.is("not -1", Looms.failure("1 7 12", "1 1 -1", "31 0 " + kind + " 7", get + " 0 0 1"), 2);
        }
    }

    /** The failure when T1 of a kind is put into T0, a row of a kind with one place. */
    private static int putting(int row, int kind) {
        return Looms.failure("1 7 1", Looms.thing(0, row), kind < 0 ? "35 1" : Looms.thing(1, kind), row == 10 ? "58 1 0 0" : "57 1 0 0");
    }

    private static void rowsOfThings(Sentences s) {
        s.of(TERMS, "8 KNOTS: a knot or NOTHING at each place");
        for (int kind = -1; kind <= 15; kind++) {
            boolean fits = kind == -1 || kind >= 11 && kind <= 13;
            s.is("kind " + kind, putting(8, kind), fits ? 0 : 4);
        }
        s.of(TERMS, "9 RINGS: a ring or NOTHING");
        for (int kind = -1; kind <= 15; kind++) {
            boolean fits = kind == -1 || kind == 12 || kind == 13;
            s.is("kind " + kind, putting(9, kind), fits ? 0 : kind == 11 ? 5 : 4);
        }
        s.of(TERMS, "10 GRID: a row of WORDS or NOTHING");
        for (int kind = -1; kind <= 15; kind++) {
            s.is("kind " + kind, putting(10, kind), kind == -1 || kind == 4 ? 0 : 4);
        }
        s.of(TERMS, "NOTHING at first.");
        for (int kind = 8; kind <= 9; kind++) {
            FaultLoom x = Looms.ran("1 7 12", Looms.thing(0, kind), "33 1 12", "47 1 0 0");
            s.is("no failure", x.state(7), 0);
            s.is("got", x.kind(1), -1);
            for (int i = 0; i < 12; i++) {
                s.is("place " + i, x.cell(0, i), -1);
            }
        }
    }

    private static void knots(Sentences s) {
        s.of(TERMS, "11 KNOT, 12 RING, 13 BOW: these have a TAG (a word), a WEIGHT (a long), a NEXT (a knot or NOTHING).");
        for (int kind = 11; kind <= 13; kind++) {
            for (int edge : new int[] {LEAST, GREATEST}) {
                long wide = edge == LEAST ? Long.MIN_VALUE : Long.MAX_VALUE;
                FaultLoom x = Looms.ran("33 0 " + kind, Looms.word(1, edge), "60 1 0", Looms.wide(1, wide), "62 1 0");
                s.is("TAG", x.field(0, 0), edge);
                s.is("WEIGHT", x.field(0, 1), wide);
            }
            for (int next = -1; next <= 15; next++) {
                boolean fits = next == -1 || next >= 11 && next <= 13;
                String maker = next < 0 ? "35 1" : Looms.thing(1, next);
                FaultLoom x = Looms.ran("33 0 " + kind, maker, "64 1 0");
                s.is("NEXT of kind " + next, x.state(8), fits ? 0 : 4);
                s.is("NEXT is of kind " + next, x.field(0, 2), fits ? next : -1);
            }
        }
    }

    private static void slipsAndFaults(Sentences s) {
        s.of(TERMS, "14 SLIP: it has a TAG.");
        FaultLoom x = Looms.ran("1 0 -8", "33 0 14 0");
        s.is("TAG", x.field(0, 0), -8);
        s.is("no WEIGHT", x.field(0, 1), 0);
        s.is("no NEXT", x.field(0, 2), 0);

        s.of(TERMS, "15 FAULT: it has a NUMBER 8 .. 23");
        for (int bits = -40; bits <= 40; bits++) {
            long number = Looms.ran(Looms.word(0, bits), "67 0 0 1").field(0, 0);
            s.is("of " + bits + " within 8 .. 23", number >= 8 && number <= 23, true);
        }
        s.is("the least", Looms.ran("1 0 16", "67 0 0 1").field(0, 0), 8);
        s.is("the greatest", Looms.ran("1 0 -1", "67 0 0 1").field(0, 0), 23);

        s.of(TERMS, "and a CAUSE (a fault or NOTHING).");
        for (int kind = -1; kind <= 15; kind++) {
            x = Looms.ran(kind < 0 ? "35 1" : Looms.thing(1, kind), "67 0 0 1");
            boolean fits = kind == -1 || kind == 15;
            s.is("of kind " + kind, x.state(8), fits ? 0 : 4);
            s.is("CAUSE of kind " + kind, x.field(0, 2), fits ? kind : 0);
        }
    }

    /** Whether 37 says that a thing of a kind is of another. */
    private static boolean isOf(int kind, int wanted) {
        return Looms.ran("1 0 9", kind < 0 ? "35 0" : Looms.thing(0, kind), "37 0 0 " + wanted).word(0) == 1;
    }

    private static void kinds(Sentences s) {
        s.of(TERMS, "A thing IS of its own kind");
        for (int kind = 0; kind <= 15; kind++) {
            s.is("kind " + kind, isOf(kind, kind), true);
            for (int wanted = 0; wanted <= 7; wanted++) {
                s.is("kind " + kind + " of " + wanted, isOf(kind, wanted), kind == wanted);
            }
        }
        s.of(TERMS, "a RING and a BOW are a KNOT, too, a BOW is a RING, too");
        for (int kind = 0; kind <= 15; kind++) {
            s.is(kind + " is a KNOT", isOf(kind, 11), kind == 11 || kind == 12 || kind == 13);
            s.is(kind + " is a RING", isOf(kind, 12), kind == 12 || kind == 13);
            s.is(kind + " is a BOW", isOf(kind, 13), kind == 13);
            s.is(kind + " is a SLIP", isOf(kind, 14), kind == 14);
            s.is(kind + " is a FAULT", isOf(kind, 15), kind == 15);
        }
        s.of(TERMS, "RINGS are KNOTS, too");
        for (int kind = 0; kind <= 15; kind++) {
            s.is(kind + " is KNOTS", isOf(kind, 8), kind == 8 || kind == 9);
            s.is(kind + " is RINGS", isOf(kind, 9), kind == 9);
            s.is(kind + " is a GRID", isOf(kind, 10), kind == 10);
        }
        s.of(TERMS, "KNOT, RING, BOW and SLIP are 16 OPS, too.");
        for (int kind = 0; kind <= 15; kind++) {
            s.is(kind + " is OPS", isOf(kind, 16), kind >= 11 && kind <= 14);
        }
        s.of(TERMS, "NOTHING is of no kind.");
        for (int wanted = 0; wanted <= 16; wanted++) {
            s.is("NOTHING is of " + wanted, isOf(-1, wanted), false);
        }
    }

    private static void sameOne(Sentences s) {
        s.of(TERMS, "One thing may be in many registers, places and NEXTs: it is the same one.");
        FaultLoom x = Looms.ran("1 7 2", "1 1 1", "1 2 77", "33 0 13 1", "31 1 8 7", "57 0 1 6", "57 0 1 1", "33 2 11", "64 0 2",
            "64 0 0", "34 3 0", "60 2 3", "47 4 1 6", "47 5 1 1", "63 6 2", "63 7 0");
        s.is("no failure", x.state(7), 0);
        s.is("two things and a row", x.state(5), 3);
        for (int r : new int[] {3, 4, 5, 6, 7}) {
            s.is("T" + r, x.same(0, r), true);
            s.is("TAG of T" + r, x.field(r, 0), 77);
        }
        x = Looms.ran("1 7 1", "1 2 55", "32 0 7 7", "48 1 0 0", "53 2 1 0", "58 1 0 0", "48 2 0 0");
        s.is("a GRID's row", x.same(1, 2), true);
        s.is("what is in it", x.cell(2, 0), 55);
        x = Looms.ran("33 0 11", "33 1 11");
        s.is("two with the same TAG", x.same(0, 1), false);
    }

    /** The TURN of a thing of a kind with a TAG, by a word. */
    private static int turn(int kind, int tag, int by) {
        return Looms.ran(Looms.word(7, tag), Looms.word(1, by), Looms.thing(0, kind), "66 0 0 1").word(0);
    }

    private static void turns(Sentences s) {
        s.of(TERMS, "of a KNOT x + its TAG");
        s.is("3 by 5", turn(11, 3, 5), 8);
        s.is("-3 by 0", turn(11, -3, 0), -3);
        s.of(TERMS, "a RING's is the same");
        s.is("3 by 5", turn(12, 3, 5), 8);
        s.is("0 by -5", turn(12, 0, -5), -5);
        s.of(TERMS, "of a BOW twice that, and then 1 more");
        s.is("3 by 5", turn(13, 3, 5), 17);
        s.is("0 by 0", turn(13, 0, 0), 1);
        s.is("-1 by 0", turn(13, -1, 0), -1);
        s.of(TERMS, "of a SLIP its TAG times x.");
        s.is("3 by 5", turn(14, 3, 5), 15);
        s.is("3 by 0", turn(14, 3, 0), 0);
        s.of(TERMS, "(Words wrap.)");
        s.is("a KNOT", turn(11, GREATEST, 1), LEAST);
        s.is("a RING", turn(12, LEAST, -1), GREATEST);
        s.is("a BOW, the sum", turn(13, GREATEST, 1), 1);
        s.is("a BOW, twice", turn(13, 1 << 30, 0), LEAST + 1);
        s.is("a BOW, 1 more", turn(13, GREATEST, 0), -1);
        s.is("a SLIP", turn(14, 65536, 65536), 0);
        s.is("a SLIP, the least", turn(14, LEAST, -1), LEAST);
    }
}
