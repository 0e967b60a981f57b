/** The operations 67 to 73, the failures, and which of several comes first. */
final class FaultSentences {
    private static final String TERMS = "Terms";
    private static final int LEAST = Integer.MIN_VALUE;
    private static final int GREATEST = Integer.MAX_VALUE;

    private FaultSentences() {
    }

    static void test(Sentences s) {
        newFault(s);
        throwing(s);
        thrownFault(s);
        ofFaults(s);
        latestNumber(s);
        telling(s);
        missing(s);
        index(s);
        size(s);
        cast(s);
        store(s);
        zero(s);
        room(s);
        roomForThings(s);
        numbers(s);
        changesNothing(s);
        ofSeveral(s);
        ofSeveralInRows(s);
    }

    private static void newFault(Sentences s) {
        s.of(TERMS, "67 Ta := a new FAULT, its NUMBER 8 and Wb's lowest four bits, its CAUSE Tc (a fault or NOTHING).");
        int[][] due = {{0, 8}, {1, 9}, {15, 23}, {16, 8}, {31, 23}, {-1, 23}, {-16, 8}, {LEAST, 8}, {GREATEST, 23}};
        for (int[] pair : due) {
            FaultLoom x = Looms.ran(Looms.word(7, pair[0]), "67 7 7 0");
            s.is("of " + pair[0], x.field(7, 0), pair[1]);
            s.is("kind", x.kind(7), 15);
            s.is("no CAUSE", x.field(7, 2), -1);
        }
        FaultLoom x = Looms.ran("67 0 0 0", "67 0 0 0", "67 0 0 0", "71 1 0", "71 2 1", "71 3 2");
        s.is("a CAUSE", x.kind(1), 15);
        s.is("of a CAUSE", x.kind(2), 15);
        s.is("is NOTHING at last", x.kind(3), -1);
        s.is("a knot is no CAUSE", Looms.failure("33 1 11", "67 0 0 1"), 4);
    }

    private static void throwing(Sentences s) {
        s.of(TERMS, "68 THROW Ta, a fault.");
        for (int kind = -1; kind <= 15; kind++) {
            int want = kind < 0 ? 1 : kind == 15 ? 8 : 4;
            s.is("kind " + kind, Looms.failure(kind < 0 ? "35 0" : Looms.thing(0, kind), "68 0"), want);
        }
        FaultLoom x = Looms.ran("67 7 0 6", "68 7");
        s.is("Ta stays", x.kind(7), 15);
        s.is("its place", x.state(9), 1);
    }

    /** Handled at 4: T5 := the fault that was thrown, W5 := the number. */
    private static FaultLoom handled(String... four) {
        FaultLoom x = Looms.loom(Looms.join(four, "69 5", "72 5", "0"));
        x.handler(3, 4, -1, 4);
        x.start();
        x.step(100);
        return x;
    }

    private static void thrownFault(Sentences s) {
        s.of(TERMS, "69 Ta := the fault that was thrown, if the latest failure that was handled was one by 68, else NOTHING.");
        for (int number = 8; number <= 23; number++) {
            FaultLoom x = handled(Looms.word(0, number - 8), "67 0 0 6", "35 6", "68 0");
            s.is("thrown " + number, x.same(5, 0), true);
        }
        FaultLoom x = handled("33 5 11", "67 0 0 6", "35 6", "7 0 0 7");
        s.is("ZERO", x.kind(5), -1);
        x = handled("33 5 11", "67 0 0 6", "35 6", "68 6");
        s.is("68 of NOTHING", x.kind(5), -1);
        x = handled("33 5 11", "67 0 0 6", "35 6", "68 5");
        s.is("68 of a knot", x.kind(5), -1);
        s.is("before one", Looms.ran("33 5 11", "69 5").kind(5), -1);
        x = Looms.loom("67 0 0 6", "68 0", "7 0 0 7", "69 5", "0");
        x.handler(1, 2, 1 << 8, 2);
        x.handler(2, 3, 1 << 6, 3);
        x.start();
        x.step(100);
        s.is("ZERO behind a fault", x.kind(5), -1);
        s.is("failures", x.state(7), 2);
        x = Looms.loom("67 0 0 6", "68 0", "1 0 1", "67 1 0 0", "68 1", "69 5", "0");
        x.handler(1, 2, 1 << 8, 2);
        x.handler(4, 5, 1 << 9, 5);
        x.start();
        x.step(100);
        s.is("the latest of two", x.same(5, 1), true);
        s.is("not the first", x.same(5, 0), false);
        x = Looms.loom("69 5", "67 0 0 6", "68 0", "0");
        x.handler(2, 3, -1, 3);
        x.start();
        x.step(100);
        x.start();
        x.step(1);
        s.is("a new run", x.kind(5), -1);
    }

    private static void ofFaults(Sentences s) {
        s.of(TERMS, "70 Wa := the NUMBER of the fault Tb.");
        s.is("the least", Looms.ran("67 1 7 7", "70 5 1").word(5), 8);
        s.is("the greatest", Looms.ran("1 7 15", "67 1 7 7", "70 5 1").word(5), 23);
        s.of(TERMS, "71 Ta := the CAUSE of the fault Tb.");
        s.is("NOTHING", Looms.ran("67 0 7 7", "33 1 11", "71 1 0").kind(1), -1);
        s.is("a fault", Looms.ran("67 0 7 7", "67 1 7 0", "71 2 1").same(0, 2), true);
        s.is("into Tb itself", Looms.ran("67 0 7 7", "67 1 7 0", "71 1 1").same(0, 1), true);
    }

    private static void latestNumber(Sentences s) {
        s.of(TERMS, "72 Wa := the number of the latest failure that was handled, 0 before one.");
        s.is("before one", Looms.ran("1 5 9", "72 5").word(5), 0);
        s.is("before one it is no failure", Looms.failure("72 5"), 0);
        s.is("ZERO", handled("1 0 1", "1 0 1", "1 0 1", "7 0 0 7").word(5), 6);
        s.is("and that is all", handled("1 0 1", "1 0 1", "1 0 1", "7 0 0 7").state(7), 1);
        s.is("a fault", handled("1 0 15", "67 0 0 6", "1 0 1", "68 0").word(5), 23);
        FaultLoom x = Looms.loom("7", "31 0 4 0", "59 0 7", "72 5", "0");
        x.handler(0, 1, -1, 1);
        x.handler(2, 3, -1, 3);
        x.start();
        x.step(100);
        s.is("the latest of two", x.word(5), 1);
        x = Looms.loom("72 5", "7", "0");
        x.handler(1, 2, -1, 2);
        x.start();
        x.step(100);
        x.start();
        x.step(1);
        s.is("a new run", x.word(5), 0);
    }

    private static void telling(Sentences s) {
        s.of(TERMS, "73 TELL Wa.");
        FaultLoom x = Looms.ran(Looms.word(7, LEAST), "73 7", Looms.word(7, GREATEST), "73 7", "73 6");
        s.is("the first", x.told(0), LEAST);
        s.is("the second", x.told(1), GREATEST);
        s.is("the third", x.told(2), 0);
        s.is("three", x.state(6), 3);
    }

    private static void missing(Sentences s) {
        s.of(TERMS, "1 MISSING: NOTHING where a thing is used (38 to 66: Tb; 68: Ta; 70, 71: Tb).");
        for (int op = 38; op <= 71; op++) {
            if (op != 67 && op != 69) {
                s.is(op + " of NOTHING", Looms.failure(op + " 0 1 2"), 1);
            }
        }
        for (int op : new int[] {34, 35, 36, 37, 67, 69}) {
            s.is(op + " uses none", Looms.failure(op + " 0 1 2"), 0);
        }
    }

    private static void index(Sentences s) {
        s.of(TERMS, "2 INDEX: a row has no such place.");
        for (int op = 39; op <= 58; op++) {
            int row = (op - 39) % 10 == 9 ? 10 : (op - 39) % 10;
            for (int places : new int[] {0, 1, 6}) {
                for (int i : new int[] {LEAST, -1, 0, places - 1, places, GREATEST}) {
                    int want = i >= 0 && i < places ? 0 : 2;
                    s.is(op + " at " + i + " of " + places, Looms.failure(Looms.word(7, places), Looms.word(1, i),
                        Looms.thing(0, row), op + " 3 0 1"), want);
                }
            }
        }
    }

    private static void size(Sentences s) {
        s.of(TERMS, "3 SIZE: places below 0 (31, 32).");
        for (int places : new int[] {-1, LEAST}) {
            for (int kind = 0; kind <= 9; kind++) {
                s.is("31 of kind " + kind, Looms.failure(Looms.word(7, places), "31 0 " + kind + " 7"), 3);
            }
            s.is("32, b", Looms.failure(Looms.word(7, places), "32 0 7 1"), 3);
            s.is("32, c", Looms.failure(Looms.word(7, places), "1 1 1", "32 0 1 7"), 3);
            s.is("32, c, without rows", Looms.failure(Looms.word(7, places), "32 0 1 7"), 3);
            s.is("32, b and c", Looms.failure(Looms.word(7, places), "32 0 7 7"), 3);
        }
        s.is("31 of 0 places", Looms.failure("31 0 4 7"), 0);
        s.is("32 of 0 places", Looms.failure("32 0 7 7"), 0);
    }

    private static void cast(Sentences s) {
        s.of(TERMS, "4 CAST: a thing is not of the kind that is wanted.");
        s.is("38 of a knot", Looms.failure("33 1 11", "38 0 1"), 4);
        s.is("39 of BYTES", Looms.failure("31 1 1 7", "39 0 1"), 4);
        s.is("43 of a GRID", Looms.failure("32 1 7 7", "43 0 1"), 4);
        s.is("47 of a knot", Looms.failure("33 1 11", "47 0 1"), 4);
        s.is("48 of WORDS", Looms.failure("31 1 4 7", "48 0 1"), 4);
        s.is("57 of a slip", Looms.failure("1 7 1", "31 1 8 7", "33 0 14", "57 0 1"), 4);
        s.is("57 of a slip into RINGS", Looms.failure("1 7 1", "31 1 9 7", "33 0 14", "57 0 1"), 4);
        s.is("58 of LONGS", Looms.failure("1 7 1", "32 1 7 7", "31 0 5 7", "58 0 1"), 4);
        s.is("59 of a slip", Looms.failure("33 1 14", "59 0 1"), 4);
        s.is("65 of a slip", Looms.failure("33 1 14", "65 0 1"), 4);
        s.is("66 of a fault", Looms.failure("67 1 0 7", "66 0 1"), 4);
        s.is("66 of KNOTS", Looms.failure("31 1 8 7", "66 0 1"), 4);
        s.is("67 by a knot", Looms.failure("33 1 11", "67 0 0 1"), 4);
        s.is("68 of a knot", Looms.failure("33 1 11", "68 1"), 4);
        s.is("70 of a knot", Looms.failure("33 1 11", "70 0 1"), 4);
        s.is("71 of a knot", Looms.failure("33 1 11", "71 0 1"), 4);
    }

    private static void store(Sentences s) {
        s.of(TERMS, "5 STORE: 57: Tb is RINGS, and Ta has a knot that is no ring.");
        s.is("a KNOT into RINGS", Looms.failure("1 7 1", "31 1 9 7", "33 0 11", "57 0 1"), 5);
        s.is("a RING into RINGS", Looms.failure("1 7 1", "31 1 9 7", "33 0 12", "57 0 1"), 0);
        s.is("a BOW into RINGS", Looms.failure("1 7 1", "31 1 9 7", "33 0 13", "57 0 1"), 0);
        s.is("NOTHING into RINGS", Looms.failure("1 7 1", "31 1 9 7", "57 0 1"), 0);
        s.is("a KNOT into KNOTS", Looms.failure("1 7 1", "31 1 8 7", "33 0 11", "57 0 1"), 0);
    }

    private static void zero(Sentences s) {
        s.of(TERMS, "6 ZERO: Wc, Lc, Fc, Dc is 0 (7, 8, 11, 12, 23, 24).");
        String[] filled = {"1 0 1", "2 0 0 1", "15 0 0", "16 0 0"};
        for (int op : new int[] {7, 8, 11, 12, 23, 24}) {
            s.is(op + " by 0", Looms.failure(Looms.join(filled, op + " 0 0 1")), 6);
            s.is(op + ", 0 by 0", Looms.failure(op + " 0 0 1"), 6);
            s.is(op + " by 1", Looms.failure(Looms.join(filled, op + " 1 1 0")), 0);
        }
        for (int op : new int[] {4, 5, 6, 9, 10, 25, 26}) {
            s.is(op + " has none", Looms.failure(Looms.join(filled, op + " 0 0 1")), 0);
        }
        s.is("-0, a single", minusZero(21, "23 2 0 1"), 6);
        s.is("-0, a double", minusZero(22, "24 2 0 1"), 6);
        s.is("the least double above 0", minusZero(0, "24 2 0 3"), 0);
    }

    /** F1 or D1 is -1, halved until it is -0; D3 is 1, halved 1074 times; then the step is tried by 1. */
    private static int minusZero(int op, String step) {
        FaultLoom x = Looms.loom("2 1 -1 -1", "2 0 0 1", "15 0 0", "16 0 0", "15 1 1", "16 1 1", "16 3 0", "1 6 1",
            "1 5 1074", "22 3 3", "5 5 5 6", "28 5 13", "27 9", "1 5 1075", (op == 0 ? 21 : op) + " 1 1", "5 5 5 6",
            "28 5 18", "27 14", step);
        x.start();
        for (int i = 0; i < 100 && x.step(100) == 0; i++) {
            // until it has ended or stopped
        }
        return x.state(10) == 1 ? -1 : x.state(8);
    }

    private static void room(Sentences s) {
        s.of(TERMS, "7 ROOM: 31 more than 12 places, 32 more than 6 of either");
        for (int kind = 0; kind <= 9; kind++) {
            s.is("31 of 12", Looms.failure("1 7 12", "31 0 " + kind + " 7"), 0);
            s.is("31 of 13", Looms.failure("1 7 13", "31 0 " + kind + " 7"), 7);
            s.is("31 of the greatest", Looms.failure(Looms.word(7, GREATEST), "31 0 " + kind + " 7"), 7);
        }
        s.is("32 of 6 and 6", Looms.failure("1 7 6", "32 0 7 7"), 0);
        s.is("32 of 7 and 6", Looms.failure("1 7 7", "1 6 6", "32 0 7 6"), 7);
        s.is("32 of 6 and 7", Looms.failure("1 7 7", "1 6 6", "32 0 6 7"), 7);
        s.is("32 of 0 and 7", Looms.failure("1 7 7", "32 0 6 7"), 7);
        s.is("32 of the greatest and 0", Looms.failure(Looms.word(7, GREATEST), "32 0 7 6"), 7);
        s.is("32 of 0 and the greatest", Looms.failure(Looms.word(7, GREATEST), "32 0 6 7"), 7);

        s.of(TERMS, "a 13th CALL that has not returned.");
        FaultLoom x = Looms.at(12, "29 0");
        s.is("12", x.state(4), 12);
        s.is("is no failure", x.state(7), 0);
        s.is("13", x.step(1), 2);
        s.is("ROOM", x.state(8), 7);
        x = Looms.loom("29 2", "27 0", "30");
        x.start();
        s.is("30 that have returned", x.step(90), 0);
        s.is("no failure", x.state(7), 0);
    }

    /** The failure of a step when the run has made so many things; W6 is -1, W5 is 13, W4 is 6, W3 is 1, T7 NOTHING. */
    private static int failureAt(int things, String step) {
        FaultLoom x = Looms.loom(Looms.join(Looms.join(new String[] {"1 6 -1", "1 5 13", "1 4 6", "1 3 1"},
            Looms.times(things, "33 1 14")), step));
        x.start();
        x.step(4 + things);
        x.step(1);
        return x.state(8);
    }

    private static void roomForThings(Sentences s) {
        s.of(TERMS, "a 61st thing in the run (a GRID is one, its rows are as many more)");
        for (String step : new String[] {"31 0 4 0", "31 0 8 0", "32 0 0 0", "33 0 11 0", "33 0 14 0", "67 0 0 7"}) {
            s.is("the 60th by " + step, failureAt(59, step), 0);
            s.is("the 61st by " + step, failureAt(60, step), 7);
        }
        s.is("a GRID with 6 rows at 53", failureAt(53, "32 0 4 0"), 0);
        s.is("a GRID with 6 rows at 54", failureAt(54, "32 0 4 0"), 7);
        s.is("a GRID with 1 row at 58", failureAt(58, "32 0 3 4"), 0);
        s.is("a GRID with 1 row at 59", failureAt(59, "32 0 3 4"), 7);
        s.is("no new thing by 34", failureAt(60, "34 0 1"), 0);
        FaultLoom x = Looms.loom(Looms.times(61, "33 1 14"));
        x.start();
        s.is("the first run", x.step(100), 2);
        s.is("60 things", x.state(5), 60);
        x.start();
        s.is("a new run makes 60 again", x.step(60), 0);
        s.is("and no more", x.step(1), 2);
    }

    private static void numbers(Sentences s) {
        s.of(TERMS, "8 .. 23: 68, the fault's NUMBER.");
        for (int number = 8; number <= 23; number++) {
            s.is("number " + number, Looms.failure(Looms.word(0, number - 8), "67 0 0 7", "68 0"), number);
        }
    }

    /** Each step fails: T0 WORDS, T1 a knot, T2 RINGS, T3 a slip, T4 a fault, T5 a GRID, W2 -5, W3 15. */
    private static final String[] FAILING = {"7 1 1 7", "8 1 1 7", "11 1 1 3", "12 1 1 3", "23 1 1 3", "24 1 1 3", "31 0 4 2",
        "31 0 4 3", "32 0 2 1", "32 0 3 1", "38 1 7", "38 1 1", "39 1 0 7", "43 1 0 2", "44 1 0 7", "45 1 0 7", "46 1 0 7",
        "47 0 2 2", "48 0 5 2", "49 1 0 7", "53 1 0 2", "53 1 7 2", "54 1 0 7", "57 1 2 7", "57 1 2 2", "57 3 2 7", "58 1 5 7",
        "58 0 5 2", "59 1 7", "60 1 3", "61 1 3", "62 1 3", "63 0 3", "64 1 3", "64 3 1", "65 1 3 1", "66 1 0 1", "67 0 1 3",
        "68 4", "68 7", "68 1", "70 1 1", "71 0 1", "71 0 7"};

    private static void changesNothing(Sentences s) {
        s.of(TERMS, "A failed step changes nothing.");
        for (String step : FAILING) {
            FaultLoom x = Looms.loom("1 1 1", "1 2 -5", "1 3 15", "2 1 0 6", "15 1 1", "16 1 1", "31 0 4 1", "53 1 0 7",
                "33 1 11 1", "64 1 1", "62 1 1", "31 2 9 1", "33 6 13", "57 6 2 7", "33 3 14 1", "67 4 1 7", "32 5 1 1", "73 3",
                step);
            x.start();
            x.step(18);
            String before = Looms.sight(x);
            s.is(step + " fails", x.step(1), 2);
            s.is(step + " changes nothing", Looms.sight(x).equals(before), true);
        }
        FaultLoom x = Looms.loom(Looms.join(Looms.times(57, "33 1 14"), "1 7 4", "31 2 9 7", "32 0 7 7"));
        x.start();
        x.step(59);
        String before = Looms.sight(x);
        s.is("no room for the rows of a GRID", x.step(1), 2);
        s.is("and none of them is made", Looms.sight(x).equals(before), true);
        x = Looms.loom("29 0", "0");
        x.handler(0, 1, 1 << 7, 1);
        x.start();
        x.step(13);
        s.is("the 13th CALL is handled", x.state(2), 1);
        s.is("and was none", x.state(4), 12);
    }

    private static void ofSeveral(Sentences s) {
        s.of(TERMS, "in 31, 32 ROOM for places ahead of SIZE");
        s.is("32 of 7 and -1", Looms.failure("1 7 7", "1 6 -1", "32 0 7 6"), 7);
        s.is("32 of -1 and 7", Looms.failure("1 7 7", "1 6 -1", "32 0 6 7"), 7);
        s.is("32 of the least and the greatest", Looms.failure(Looms.word(7, GREATEST), Looms.word(6, LEAST), "32 0 6 7"), 7);
        s.is("31 of the least", Looms.failure(Looms.word(7, LEAST), "31 0 4 7"), 3);

        s.of(TERMS, "(32: of b ahead of c, each ROOM first, then each SIZE)");
        for (int b : new int[] {LEAST, -1, 0, 6, 7, GREATEST}) {
            for (int c : new int[] {LEAST, -1, 0, 6, 7, GREATEST}) {
                int want = b > 6 || c > 6 ? 7 : b < 0 || c < 0 ? 3 : 0;
                s.is("32 of " + b + " and " + c, Looms.failure(Looms.word(7, b), Looms.word(6, c), "32 0 7 6"), want);
            }
        }
        s.of(TERMS, "then ROOM for things.");
        s.is("31 of -1 at 60", failureAt(60, "31 0 4 6"), 3);
        s.is("32 of -1 and 0 at 60", failureAt(60, "32 0 6 0"), 3);
        s.is("32 of 0 and -1 at 60", failureAt(60, "32 0 0 6"), 3);
        s.is("31 of 13 at 60", failureAt(60, "31 0 4 5"), 7);
        s.is("31 of 0 at 60", failureAt(60, "31 0 4 0"), 7);

        s.of(TERMS, "64: CAST of Tb, then of Ta, then MISSING.");
        s.is("Tb a slip, Ta NOTHING", Looms.failure("33 1 14", "64 0 1"), 4);
        s.is("Tb NOTHING, Ta a slip", Looms.failure("33 0 14", "64 0 1"), 4);
        s.is("Tb NOTHING, Ta a knot", Looms.failure("33 0 11", "64 0 1"), 1);
        s.is("both NOTHING", Looms.failure("64 0 1"), 1);

        s.of(TERMS, "67: CAST of Tc, then ROOM.");
        s.is("a slip as CAUSE at 60", failureAt(60, "67 0 0 1"), 4);
        s.is("NOTHING as CAUSE at 60", failureAt(60, "67 0 0 7"), 7);
    }

    private static void ofSeveralInRows(Sentences s) {
        s.of(TERMS, "39 to 58: CAST of Tb, then CAST of Ta, then MISSING, then INDEX, then STORE.");
        for (int op = 39; op <= 58; op++) {
            s.is(op + ", CAST of Tb ahead of INDEX", Looms.failure("1 7 -1", "33 1 14", op + " 0 1 7"), 4);
            s.is(op + ", MISSING ahead of INDEX", Looms.failure("1 7 -1", op + " 0 1 7"), 1);
        }
        s.is("57, CAST of Ta ahead of MISSING", Looms.failure("33 0 14", "57 0 1"), 4);
        s.is("58, CAST of Ta ahead of MISSING", Looms.failure("33 0 14", "58 0 1"), 4);
        s.is("57, CAST of Ta ahead of INDEX", Looms.failure("33 0 14", "31 1 8", "57 0 1"), 4);
        s.is("58, CAST of Ta ahead of INDEX", Looms.failure("33 0 14", "32 1", "58 0 1"), 4);
        s.is("57, CAST of Ta ahead of STORE", Looms.failure("1 7 1", "33 0 14", "31 1 9 7", "57 0 1"), 4);
        s.is("57, MISSING with a KNOT", Looms.failure("33 0 11", "57 0 1"), 1);
        s.is("58, MISSING with WORDS", Looms.failure("31 0 4", "58 0 1"), 1);
        s.is("57, INDEX ahead of STORE", Looms.failure("33 0 11", "31 1 9", "57 0 1"), 2);
        s.is("57, STORE", Looms.failure("1 7 1", "33 0 11", "31 1 9 7", "57 0 1"), 5);
        for (int op = 49; op <= 56; op++) {
            // Ta is none of theirs: a is a number's register.
            s.is(op + " looks at no Ta", Looms.failure("1 7 1", "33 0 14", "31 1 " + (op - 49) + " 7", op + " 0 1"), 0);
        }
    }
}
