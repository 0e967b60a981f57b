/** Promises 7 to 18: what the face tells of registers, things and runs. */
final class AnswerSentences {
    private static final int LEAST = Integer.MIN_VALUE;
    private static final int GREATEST = Integer.MAX_VALUE;
    private static final int[] NO_EIGHTH = {LEAST, -1, 8, GREATEST};
    private static final int[] NO_FOURTH = {LEAST, -1, 4, 7, 8, GREATEST};

    private AnswerSentences() {
    }

    static void test(Sentences s) {
        numbers(s);
        kind(s);
        size(s);
        cell(s);
        point(s);
        field(s);
        same(s);
        told(s);
        stateOfProgram(s);
        stateBeforeRun(s);
        statePlace(s);
        stateCounts(s);
        stateFailures(s);
        stateOfRun(s);
    }

    /** Every register has a number of its own that is not 0. */
    private static FaultLoom filled() {
        FaultLoom x = new FaultLoom();
        for (int r = 0; r < 8; r++) {
            x.put(1, r, r - 9, 0);
        }
        for (int r = 0; r < 4; r++) {
            x.put(2, r, 1, r + 1);
            x.put(15, r, r, 0);
            x.put(16, r, r, 0);
        }
        x.start();
        x.step(100);
        return x;
    }

    private static void numbers(Sentences s) {
        FaultLoom x = filled();
        s.of("Promise 7", "Wr; 0 if there is none such.");
        for (int r = 0; r < 8; r++) {
            s.is("word(" + r + ")", x.word(r), r - 9);
        }
        for (int r : NO_EIGHTH) {
            s.is("word(" + r + ")", x.word(r), 0);
        }
        s.of("Promise 8", "Lr; 0 if there is none such.");
        for (int r = 0; r < 4; r++) {
            s.is("wide(" + r + ")", x.wide(r), 4294967297L + r);
        }
        for (int r : NO_FOURTH) {
            s.is("wide(" + r + ")", x.wide(r), 0);
        }
        s.of("Promise 9", "Fr; 0 if there is none such.");
        for (int r = 0; r < 4; r++) {
            s.real("single(" + r + ")", x.single(r), 4294967296.0);
        }
        s.real("as it is, broken", Looms.ran("2 0 0 3", "15 3 0", "21 3 3").single(3), 1.5);
        for (int r : NO_FOURTH) {
            s.real("single(" + r + ")", x.single(r), 0);
        }
        s.of("Promise 10", "Dr; 0 if there is none such.");
        for (int r = 0; r < 4; r++) {
            s.real("real(" + r + ")", x.real(r), 4294967297.0 + r);
        }
        for (int r : NO_FOURTH) {
            s.real("real(" + r + ")", x.real(r), 0);
        }
    }

    private static void kind(Sentences s) {
        s.of("Promise 11", "The kind of Tr; -1 NOTHING, -2 there is none such.");
        for (int kind = 0; kind <= 15; kind++) {
            s.is("kind " + kind, Looms.ran(Looms.thing(0, kind)).kind(0), kind);
            s.is("kind " + kind + " in T6", Looms.ran(Looms.thing(6, kind)).kind(6), kind);
        }
        FaultLoom x = Looms.ran("33 7 11");
        for (int r = 0; r < 7; r++) {
            s.is("kind(" + r + ")", x.kind(r), -1);
        }
        s.is("kind(7)", x.kind(7), 11);
        for (int r : NO_EIGHTH) {
            s.is("kind(" + r + ")", x.kind(r), -2);
        }
    }

    private static void size(Sentences s) {
        s.of("Promise 12", "How many places the row Tr has; -1 if it is none.");
        for (int kind = 0; kind <= 15; kind++) {
            s.is("none of kind " + kind, Looms.ran(Looms.thing(0, kind)).size(0), kind <= 10 ? 0 : -1);
            s.is("6 of kind " + kind, Looms.ran("1 7 6", Looms.thing(0, kind)).size(0), kind <= 10 ? 6 : -1);
        }
        for (int kind = 0; kind <= 9; kind++) {
            s.is("12 of kind " + kind, Looms.ran("1 7 12", Looms.thing(0, kind)).size(0), 12);
        }
        FaultLoom x = Looms.ran("31 0 4 7");
        s.is("NOTHING", x.size(1), -1);
        for (int r : NO_EIGHTH) {
            s.is("size(" + r + ")", x.size(r), -1);
        }
    }

    private static void cell(Sentences s) {
        s.of("Promise 13", "At place i of the row Tr: of kinds 0 to 5 the number");
        long[] due = {1, -1, 65535, -1, -1};
        for (int kind = 0; kind <= 4; kind++) {
            FaultLoom x = Looms.ran("1 7 12", "1 1 11", "1 2 -1", Looms.thing(0, kind), (49 + kind) + " 2 0 1",
                (49 + kind) + " 2 0 0");
            s.is("the first place, kind " + kind, x.cell(0, 0), due[kind]);
            s.is("the last place, kind " + kind, x.cell(0, 11), due[kind]);
            s.is("another, kind " + kind, x.cell(0, 1), 0);
        }
        FaultLoom x = Looms.ran("1 7 1", Looms.wide(0, Long.MIN_VALUE), "31 0 5 7", "54 0 0 0");
        s.is("a long", x.cell(0, 0), Long.MIN_VALUE);

        s.of("Promise 13", "of KNOTS, RINGS the thing's kind (-1 NOTHING)");
        for (int row = 8; row <= 9; row++) {
            for (int kind = 12; kind <= 13; kind++) {
                x = Looms.ran("1 7 2", "1 1 1", Looms.thing(0, row), Looms.thing(1, kind), "57 1 0 1");
                s.is("NOTHING", x.cell(0, 0), -1);
                s.is("a knot", x.cell(0, 1), kind);
            }
        }
        s.is("a KNOT", Looms.ran("1 7 1", "31 0 8 7", "33 1 11", "57 1 0 0").cell(0, 0), 11);

        s.of("Promise 13", "of a GRID how many places the row there has (-1 NOTHING)");
        x = Looms.ran("1 7 3", "1 1 1", "1 2 2", "1 5 12", "32 0 7 7", "31 1 4 5", "58 1 0 1", "58 7 0 2");
        s.is("a row of 3", x.cell(0, 0), 3);
        s.is("a row of 12", x.cell(0, 1), 12);
        s.is("NOTHING", x.cell(0, 2), -1);
        s.is("a row of 0", Looms.ran("1 7 1", "32 0 7 1").cell(0, 0), 0);

        s.of("Promise 13", "0 where there is nothing such.");
        noCell(s);
    }

    private static void noCell(Sentences s) {
        for (int kind = 0; kind <= 10; kind++) {
            // Every place has a number that is not 0, a thing or NOTHING: so 0 tells that there is none.
            FaultLoom x = Looms.ran("1 7 1", "2 0 0 1", "15 0 0", "16 0 0", Looms.thing(0, kind),
                (49 + (kind == 9 ? 8 : kind == 10 ? 9 : kind)) + (kind < 5 ? " 7" : kind < 8 ? " 0" : " 6") + " 0 1");
            s.is("there is a place of kind " + kind, x.state(7), 0);
            s.is("place 0 of kind " + kind, x.cell(0, 0), kind < 6 ? 1 : kind < 8 ? 0 : -1);
            for (int i : new int[] {LEAST, -1, 1, 12, GREATEST}) {
                s.is("place " + i + " of kind " + kind, x.cell(0, i), 0);
            }
        }
        for (int kind = 11; kind <= 15; kind++) {
            s.is("kind " + kind + " is no row", Looms.ran("1 7 5", Looms.thing(0, kind)).cell(0, 0), 0);
        }
        FaultLoom x = Looms.ran("1 7 1", "31 0 8 7", "34 7 0");
        s.is("NOTHING", x.cell(1, 0), 0);
        for (int r : NO_EIGHTH) {
            s.is("T" + r, x.cell(r, 0), 0);
        }
    }

    private static void point(Sentences s) {
        s.of("Promise 14", "At place i of the row Tr of SINGLES, DOUBLES: the number");
        FaultLoom x = Looms.ran("1 7 12", "1 1 11", "2 0 0 16777217", "15 0 0", "16 0 0", "21 0 0", "22 0 0", "31 0 6 7",
            "31 1 7 7", "55 0 0 6", "55 0 0 1", "56 0 1 6", "56 0 1 1");
        s.real("SINGLES, the first", x.point(0, 0), 8388608);
        s.real("SINGLES, the last", x.point(0, 11), 8388608);
        s.real("SINGLES, another", x.point(0, 10), 0);
        s.real("DOUBLES, the first", x.point(1, 0), 8388608.5);
        s.real("DOUBLES, the last", x.point(1, 11), 8388608.5);

        s.of("Promise 14", "0 where there is nothing such.");
        for (int r = 0; r < 2; r++) {
            for (int i : new int[] {LEAST, -1, 12, GREATEST}) {
                s.real("T" + r + ", place " + i, x.point(r, i), 0);
            }
        }
        s.real("NOTHING", x.point(2, 0), 0);
        for (int r : NO_EIGHTH) {
            s.real("T" + r, x.point(r, 0), 0);
        }
        for (int kind = 0; kind <= 15; kind++) {
            if (kind != 6 && kind != 7) {
                FaultLoom y = Looms.ran("1 7 1", "2 0 0 1", Looms.thing(0, kind), kind == 5 ? "54 0 0 1" : "3",
                    kind < 5 ? (49 + kind) + " 7 0 1" : "3");
                s.real("kind " + kind, y.point(0, 0), 0);
            }
        }
    }

    /** A knot, ring, bow, slip or fault with a TAG of 3 (a NUMBER of 11) and, if it has one, a WEIGHT of 9. */
    private static FaultLoom ofKind(int kind) {
        return Looms.ran("1 7 3", "2 0 0 9", Looms.thing(0, kind), kind >= 11 && kind <= 13 ? "62 0 0" : "3");
    }

    private static void field(Sentences s) {
        s.of("Promise 15", "what = 0 a knot's or slip's TAG, a fault's NUMBER");
        for (int kind = 11; kind <= 14; kind++) {
            s.is("TAG of kind " + kind, ofKind(kind).field(0, 0), 3);
            s.is("the least TAG", Looms.ran(Looms.word(7, LEAST), Looms.thing(0, kind)).field(0, 0), LEAST);
            s.is("the greatest TAG", Looms.ran(Looms.word(7, GREATEST), Looms.thing(0, kind)).field(0, 0), GREATEST);
        }
        s.is("NUMBER", ofKind(15).field(0, 0), 11);

        s.of("Promise 15", "1 a knot's WEIGHT");
        for (int kind = 11; kind <= 15; kind++) {
            s.is("of kind " + kind, ofKind(kind).field(0, 1), kind <= 13 ? 9 : 0);
        }
        s.is("the least", Looms.ran(Looms.wide(0, Long.MIN_VALUE), "33 0 11", "62 0 0").field(0, 1), Long.MIN_VALUE);

        s.of("Promise 15", "2 the kind of a knot's NEXT, of a fault's CAUSE (-1 NOTHING)");
        for (int kind = 11; kind <= 13; kind++) {
            s.is("no NEXT of kind " + kind, ofKind(kind).field(0, 2), -1);
            for (int next = 11; next <= 13; next++) {
                s.is("NEXT of kind " + next, Looms.ran(Looms.thing(0, kind), Looms.thing(1, next), "64 1 0").field(0, 2), next);
            }
        }
        s.is("no CAUSE", ofKind(15).field(0, 2), -1);
        s.is("a CAUSE", Looms.ran("67 1 7 7", "67 0 7 1").field(0, 2), 15);

        s.of("Promise 15", "0 for all else.");
        for (int kind = 0; kind <= 15; kind++) {
            FaultLoom x = ofKind(kind);
            for (int what : new int[] {LEAST, -1, 3, GREATEST}) {
                s.is("what " + what + " of kind " + kind, x.field(0, what), 0);
            }
            for (int what = 0; what < 3 && kind <= 10; what++) {
                s.is("what " + what + " of a row of kind " + kind, x.field(0, what), 0);
            }
        }
        s.is("a slip's WEIGHT", ofKind(14).field(0, 1), 0);
        s.is("a slip's NEXT", ofKind(14).field(0, 2), 0);
        s.is("a fault's WEIGHT", ofKind(15).field(0, 1), 0);
        FaultLoom x = ofKind(11);
        for (int what = 0; what < 3; what++) {
            s.is("what " + what + " of NOTHING", x.field(1, what), 0);
            for (int r : NO_EIGHTH) {
                s.is("what " + what + " of T" + r, x.field(r, what), 0);
            }
        }
    }

    private static void same(Sentences s) {
        s.of("Promise 16", "Whether Tr and Tq have the same thing");
        FaultLoom x = Looms.ran("33 0 11", "34 7 0", "33 1 11");
        s.is("T0, T7", x.same(0, 7), true);
        s.is("T7, T0", x.same(7, 0), true);
        s.is("T7, T7", x.same(7, 7), true);
        s.is("T0, T1", x.same(0, 1), false);
        for (int kind = 0; kind <= 15; kind++) {
            x = Looms.ran(Looms.thing(0, kind), "34 6 0", Looms.thing(1, kind));
            s.is("one of kind " + kind, x.same(0, 6), true);
            s.is("two of kind " + kind, x.same(0, 1), false);
        }
        s.of("Promise 16", "(false for NOTHING, or where there is none such)");
        x = Looms.ran("33 0 11", "34 7 0");
        s.is("NOTHING twice", x.same(1, 2), false);
        s.is("NOTHING itself", x.same(1, 1), false);
        s.is("a thing and NOTHING", x.same(0, 1), false);
        for (int r : NO_EIGHTH) {
            s.is("T0, T" + r, x.same(0, r), false);
            s.is("T" + r + ", T0", x.same(r, 0), false);
            s.is("NOTHING, T" + r, x.same(1, r), false);
            s.is("T" + r + ", NOTHING", x.same(r, 1), false);
            for (int q : NO_EIGHTH) {
                s.is("T" + r + ", T" + q, x.same(r, q), false);
            }
        }
    }

    /** Tells 1, 2, 3 and so on, so many; three steps each. */
    private static FaultLoom telling(int numbers) {
        FaultLoom x = Looms.loom("1 1 1", "4 0 0 1", "73 0", "27 1");
        x.start();
        x.step(1);
        for (int i = 0; i < numbers; i++) {
            x.step(3);
        }
        return x;
    }

    private static void told(Sentences s) {
        s.of("Promise 17", "The i-th number told in the run, from 0; 0 if there is none.");
        FaultLoom x = telling(3);
        s.is("told(0)", x.told(0), 1);
        s.is("told(2)", x.told(2), 3);
        for (int i : new int[] {LEAST, -1, 3, 199, 200, GREATEST}) {
            s.is("told(" + i + ")", x.told(i), 0);
        }
        x.start();
        s.is("told(0) in a new run", x.told(0), 0);
        x.step(4);
        s.is("told(0) again", x.told(0), 1);
        s.is("told(1) is of the old run", x.told(1), 0);
        s.is("no run yet", new FaultLoom().told(0), 0);

        s.of("Promise 17", "Of more than 200 the first 200 are kept.");
        for (int numbers : new int[] {199, 200, 201, 250}) {
            x = telling(numbers);
            s.is("the first of " + numbers, x.told(0), 1);
            s.is("the 199th of " + numbers, x.told(198), 199);
            s.is("the 200th of " + numbers, x.told(199), numbers >= 200 ? 200 : 0);
            s.is("the 201st of " + numbers, x.told(200), 0);
            s.is("the 250th of " + numbers, x.told(249), 0);
        }
    }

    private static void stateOfProgram(Sentences s) {
        s.of("Promise 18", "what = 0 steps of the program");
        FaultLoom x = new FaultLoom();
        s.is("none", x.state(0), 0);
        for (int i = 1; i <= 151; i++) {
            x.put(0, 0, 0, 0);
            s.is("put " + i, x.state(0), Math.min(i, 150));
        }
        x.start();
        s.is("in a run", x.state(0), 150);
        x.clear();
        s.is("behind clear", x.state(0), 0);

        s.of("Promise 18", "1 handlers");
        s.is("none", x.state(1), 0);
        for (int i = 1; i <= 17; i++) {
            x.handler(0, 0, 0, 0);
            s.is("handler " + i, x.state(1), Math.min(i, 16));
        }
        x.clear();
        s.is("behind clear", x.state(1), 0);
    }

    private static void stateBeforeRun(Sentences s) {
        s.of("Promise 18", "of the latest run (0 before one)");
        FaultLoom x = Looms.loom("1 0 1", "0");
        x.handler(0, 1, -1, 0);
        // what = 9 is -1 before a failure, and so it is before a run.
        for (int what = 2; what <= 8; what++) {
            s.is("state(" + what + ") before one", x.state(what), 0);
            s.is("state(" + what + ") of a new object", new FaultLoom().state(what), 0);
        }
        s.is("state(10) before one", x.state(10), 0);
        x = Looms.ran("33 0 11", "73 0", "29 3", "7");
        int[] due = {3, 4, 0, 1, 1, 1, 6, 3};
        for (int what = 2; what <= 9; what++) {
            s.is("state(" + what + ")", x.state(what), due[what - 2]);
        }
        x.put(0, 0, 0, 0);
        x.handler(0, 0, 0, 0);
        x.clear();
        for (int what = 2; what <= 9; what++) {
            s.is("state(" + what + ") of the latest run", x.state(what), due[what - 2]);
        }
    }

    private static void statePlace(Sentences s) {
        s.of("Promise 18", "2 the place where it is");
        FaultLoom x = Looms.loom("3", "27 5");
        x.start();
        s.is("at first", x.state(2), 0);
        x.step(1);
        s.is("behind a step", x.state(2), 1);
        x.step(1);
        s.is("where no step is", x.state(2), 5);
        x = Looms.at(1, "3");
        s.is("behind the last step", x.state(2), 1);
        x.step(1);
        s.is("and there it stays", x.state(2), 1);
        x = Looms.loom("3", "7");
        x.handler(1, 2, -1, 199);
        x.start();
        x.step(2);
        s.is("of a handler", x.state(2), 199);

        s.of("Promise 18", "(that of the last step, if this ended the run as HALT or 30, or stopped it)");
        s.is("HALT", Looms.ran("3", "0", "3").state(2), 1);
        s.is("HALT as the last step", Looms.ran("3", "0").state(2), 1);
        s.is("30", Looms.ran("3", "30", "3").state(2), 1);
        s.is("30 to a place without a step", Looms.ran("27 2", "30", "29 1").state(2), 3);
        s.is("a failure", Looms.ran("3", "7", "3").state(2), 1);
        s.is("a failure in a CALL", Looms.ran("29 2", "0", "7").state(2), 2);
    }

    private static void stateCounts(Sentences s) {
        s.of("Promise 18", "3 steps done, failed ones, too");
        FaultLoom x = Looms.loom("7", "3", "59 0 0");
        x.handler(0, 1, -1, 1);
        x.start();
        s.is("none", x.state(3), 0);
        x.step(1);
        s.is("a failed one", x.state(3), 1);
        x.step(100);
        s.is("the one that stopped it", x.state(3), 3);
        s.is("HALT", Looms.ran("0").state(3), 1);
        s.is("30", Looms.ran("30").state(3), 1);
        s.is("no step at all", Looms.ran().state(3), 0);

        s.of("Promise 18", "4 CALLs that have not returned");
        x = Looms.loom("29 1", "29 3", "0", "30");
        x.start();
        s.is("none", x.state(4), 0);
        x.step(1);
        s.is("one", x.state(4), 1);
        x.step(1);
        s.is("two", x.state(4), 2);
        x.step(1);
        s.is("one has returned", x.state(4), 1);
        x.step(1);
        s.is("HALT lets it be", x.state(4), 1);
        s.is("12", Looms.at(12, "29 0").state(4), 12);
        s.is("all are given up when it stops", Looms.at(13, "29 0").state(4), 0);

        s.of("Promise 18", "5 things made");
        s.is("none", Looms.ran("35 0", "34 1 0").state(5), 0);
        s.is("a row", Looms.ran("31 0 4 0").state(5), 1);
        s.is("a GRID without rows", Looms.ran("32 0 0 0").state(5), 1);
        s.is("a GRID with 6", Looms.ran("1 0 6", "32 0 0 0").state(5), 7);
        s.is("a knot", Looms.ran("33 0 11").state(5), 1);
        s.is("a fault", Looms.ran("67 0 0 7").state(5), 1);
        s.is("those that no register has, too", Looms.ran("33 0 11", "35 0", "33 0 11").state(5), 2);
        s.is("60", Looms.ran(Looms.times(61, "33 0 11")).state(5), 60);

        s.of("Promise 18", "6 numbers told");
        s.is("none", telling(0).state(6), 0);
        s.is("one", telling(1).state(6), 1);
        s.is("200", telling(200).state(6), 200);
        s.is("201, those that are not kept, too", telling(201).state(6), 201);
    }

    private static void stateFailures(Sentences s) {
        FaultLoom x = Looms.loom("7", "59 0 0", "0");
        x.handler(0, 1, -1, 1);
        x.start();
        FaultLoom y = Looms.loom("7", "59 0 0", "0");
        y.handler(0, 1, -1, 1);
        y.start();
        y.step(1);
        FaultLoom z = Looms.loom("7", "59 0 0", "0");
        z.handler(0, 1, -1, 1);
        z.start();
        z.step(2);

        s.of("Promise 18", "7 failures (handled or not)");
        s.is("none", x.state(7), 0);
        s.is("a handled one", y.state(7), 1);
        s.is("and one that was not", z.state(7), 2);
        s.is("through two CALLs it is one", Looms.ran("29 1", "29 2", "7").state(7), 1);

        s.of("Promise 18", "8 the number of the latest failure (0 before one)");
        s.is("before one", x.state(8), 0);
        s.is("the first", y.state(8), 6);
        s.is("the latest", z.state(8), 1);
        s.is("the greatest number", Looms.ran("1 0 15", "67 0 0 7", "68 0").state(8), 23);

        s.of("Promise 18", "9 its step's place (-1 before one)");
        s.is("before one", x.state(9), -1);
        s.is("before a run there was none, too", new FaultLoom().state(9), -1);
        s.is("the first, at place 0", y.state(9), 0);
        s.is("the latest", z.state(9), 1);
        s.is("in a CALL", Looms.ran("29 2", "0", "7").state(9), 2);
        z.start();
        s.is("before one in a new run", z.state(9), -1);
    }

    private static void stateOfRun(Sentences s) {
        s.of("Promise 18", "10 0 no run, 1 there is more, 2 it has ended, 3 it has stopped.");
        FaultLoom x = Looms.loom("3", "0");
        s.is("no run", x.state(10), 0);
        x.start();
        s.is("there is more", x.state(10), 1);
        x.step(1);
        s.is("there is more still", x.state(10), 1);
        x.step(1);
        s.is("it has ended", x.state(10), 2);
        x.handler(0, 0, 0, 0);
        s.is("no run any more", x.state(10), 0);
        s.is("it has stopped", Looms.ran("7").state(10), 3);
        s.is("ended at once", Looms.ran().state(10), 2);

        s.of("Promise 18", "-1: no such what.");
        for (int what : new int[] {LEAST, -1, 11, GREATEST}) {
            s.is("state(" + what + ") of a new object", new FaultLoom().state(what), -1);
            s.is("state(" + what + ")", x.state(what), -1);
            s.is("state(" + what + ") of a stopped run", Looms.ran("7").state(what), -1);
        }
    }
}
