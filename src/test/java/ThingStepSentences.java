/** The operations 27 to 38: places, and things as a whole. */
final class ThingStepSentences {
    private static final String TERMS = "Terms";

    private ThingStepSentences() {
    }

    static void test(Sentences s) {
        jumps(s);
        calls(s);
        newRow(s);
        newGrid(s);
        newKnot(s);
        registers(s);
        looks(s);
    }

    private static void jumps(Sentences s) {
        s.of(TERMS, "27 JUMP: on at place a.");
        FaultLoom x = Looms.at(1, "27 2", "1 0 1", "0");
        s.is("place 2", x.state(2), 2);
        x = Looms.at(3, "27 0");
        s.is("its own place", x.state(2), 0);
        s.is("again and again", x.state(3), 3);
        x = Looms.ran("27 199");
        s.is("the last place", x.state(2), 199);
        s.is("has no step", x.state(10), 2);
        x = Looms.at(1, "27 1");
        s.is("the place behind the last step", x.state(2), 1);
        s.is("has no step", x.state(10), 2);

        s.of(TERMS, "28 on at place b, if Wa is 0.");
        s.is("0", Looms.at(1, "28 7 2", "0", "0").state(2), 2);
        s.is("1", Looms.at(2, "1 7 1", "28 7 0", "0").state(2), 2);
        s.is("-1", Looms.at(2, "1 7 -1", "28 7 0", "0").state(2), 2);
        s.is("the least", Looms.at(2, "1 7 -2147483648", "28 7 0", "0").state(2), 2);
        s.is("the last place", Looms.at(1, "28 7 199").state(2), 199);
    }

    private static void calls(Sentences s) {
        s.of(TERMS, "29 CALL: on at place a; the place behind this step is that of RETURN.");
        FaultLoom x = Looms.at(1, "29 3", "1 0 1", "0", "30");
        s.is("on at 3", x.state(2), 3);
        s.is("has not returned", x.state(4), 1);
        x.step(1);
        s.is("the place behind the CALL", x.state(2), 1);
        s.is("has returned", x.state(4), 0);
        x = Looms.ran("29 199");
        s.is("the last place", x.state(2), 199);
        s.is("has no step", x.state(10), 2);
        s.is("has not returned", x.state(4), 1);
        x = Looms.at(3, "27 2", "30", "29 1");
        s.is("a CALL as the last step returns behind it", x.state(2), 3);
        s.is("where no step is", x.state(10), 2);

        s.of(TERMS, "30 RETURN: on at the place of the latest CALL that has not returned");
        x = Looms.at(4, "29 2", "0", "29 4", "0", "29 6", "0", "30");
        s.is("the latest of three", x.state(2), 5);
        s.is("two have not returned", x.state(4), 2);
        x = Looms.at(6, "29 3", "29 3", "0", "30", "0");
        s.is("returned twice", x.state(2), 2);

        s.of(TERMS, "the run has ENDED if there is none.");
        x = Looms.at(1, "30", "1 0 1");
        s.is("no CALL", x.state(10), 2);
        s.is("its own place", x.state(2), 0);
        x = Looms.at(3, "29 2", "30", "30");
        s.is("the CALL has returned", x.state(10), 2);
        s.is("its place", x.state(2), 1);
    }

    private static void newRow(Sentences s) {
        s.of(TERMS, "31 Ta := a new row of kind b (0 .. 9) with Wc places.");
        for (int kind = 0; kind <= 9; kind++) {
            for (int places : new int[] {0, 1, 12}) {
                FaultLoom x = Looms.ran(Looms.word(7, places), "31 7 " + kind + " 7");
                s.is("kind", x.kind(7), kind);
                s.is("places", x.size(7), places);
            }
            s.is("too many places", Looms.failure("1 7 13", "31 7 " + kind + " 7"), 7);
            s.is("too few places", Looms.failure("1 7 -1", "31 7 " + kind + " 7"), 3);
        }
        s.is("kind -1", new FaultLoom().put(31, 0, -1, 0), -1);
        s.is("kind 10", new FaultLoom().put(31, 0, 10, 0), -1);
    }

    private static void newGrid(Sentences s) {
        s.of(TERMS, "32 Ta := a new GRID with Wb places, each with a new row of WORDS with Wc places.");
        for (int b : new int[] {0, 1, 6}) {
            for (int c : new int[] {0, 1, 6}) {
                FaultLoom x = Looms.ran(Looms.word(5, b), Looms.word(6, c), "32 7 5 6");
                s.is("kind", x.kind(7), 10);
                s.is("places", x.size(7), b);
                for (int i = 0; i < b; i++) {
                    s.is("places of a row", x.cell(7, i), c);
                }
            }
        }
        FaultLoom x = Looms.ran("1 5 2", "1 1 1", "1 2 9", "32 0 5 5", "48 1 0 7", "48 2 0 1", "53 2 1 7");
        s.is("a row's kind", x.kind(1), 4);
        s.is("0 at first", x.cell(1, 1), 0);
        s.is("each has its own row", x.same(1, 2), false);
        s.is("what was put", x.cell(1, 0), 9);
        s.is("is in one alone", x.cell(2, 0), 0);
    }

    private static void newKnot(Sentences s) {
        s.of(TERMS, "33 Ta := a new thing of kind b (11 .. 14), its TAG Wc, WEIGHT 0, NEXT NOTHING.");
        for (int kind = 11; kind <= 14; kind++) {
            for (int tag : new int[] {0, -1, Integer.MIN_VALUE, Integer.MAX_VALUE}) {
                FaultLoom x = Looms.ran(Looms.word(7, tag), "33 7 " + kind + " 7");
                s.is("kind", x.kind(7), kind);
                s.is("TAG", x.field(7, 0), tag);
                s.is("WEIGHT", x.field(7, 1), 0);
                s.is("NEXT", x.field(7, 2), kind == 14 ? 0 : -1);
            }
        }
        s.is("kind 10", new FaultLoom().put(33, 0, 10, 0), -1);
        s.is("kind 15", new FaultLoom().put(33, 0, 15, 0), -1);
    }

    private static void registers(Sentences s) {
        s.of(TERMS, "34 Ta := Tb.");
        FaultLoom x = Looms.ran("33 0 12", "34 7 0");
        s.is("the same", x.same(0, 7), true);
        x = Looms.ran("33 7 12", "34 7 0");
        s.is("NOTHING", x.kind(7), -1);
        s.is("is no failure", x.state(7), 0);

        s.of(TERMS, "35 Ta := NOTHING.");
        x = Looms.ran("33 7 12", "35 7");
        s.is("T7", x.kind(7), -1);
        x = Looms.ran("35 7");
        s.is("NOTHING again", x.kind(7), -1);
        s.is("is no failure", x.state(7), 0);
    }

    private static void looks(Sentences s) {
        s.of(TERMS, "36 Wa := 1 if Tb and Tc have the same thing, or both NOTHING, else 0.");
        s.is("the same", Looms.ran("33 0 12", "34 7 0", "36 7 0 7").word(7), 1);
        s.is("one register", Looms.ran("33 0 12", "36 7 0 0").word(7), 1);
        s.is("both NOTHING", Looms.ran("36 7 0 1").word(7), 1);
        s.is("two things", Looms.ran("1 7 9", "33 0 12", "33 1 12", "36 7 0 1").word(7), 0);
        s.is("a thing and NOTHING", Looms.ran("1 7 9", "33 0 12", "36 7 0 1").word(7), 0);
        s.is("NOTHING and a thing", Looms.ran("1 7 9", "33 0 12", "36 7 1 0").word(7), 0);

        s.of(TERMS, "37 Wa := 1 if Tb is of kind c (0 .. 16), else 0.");
        s.is("WORDS of kind 0", Looms.ran("1 7 9", "31 0 4 6", "37 7 0 0").word(7), 0);
        s.is("FLAGS of kind 0", Looms.ran("31 0 0 6", "37 7 0 0").word(7), 1);
        s.is("a SLIP of kind 16", Looms.ran("33 0 14", "37 7 0 16").word(7), 1);
        s.is("a fault of kind 16", Looms.ran("1 7 9", "67 0 6 7", "37 7 0 16").word(7), 0);
        s.is("NOTHING", Looms.ran("1 7 9", "37 7 0 16").word(7), 0);
        s.is("NOTHING is no failure", Looms.failure("37 7 0 16"), 0);
        s.is("kind -1", new FaultLoom().put(37, 0, 0, -1), -1);
        s.is("kind 17", new FaultLoom().put(37, 0, 0, 17), -1);

        s.of(TERMS, "38 Wa := how many places the row Tb has (a GRID, too).");
        for (int kind = 0; kind <= 10; kind++) {
            s.is("6 of kind " + kind, Looms.ran("1 7 6", Looms.thing(1, kind), "38 5 1").word(5), 6);
            s.is("none of kind " + kind, Looms.ran("1 5 9", Looms.thing(1, kind), "38 5 1").word(5), 0);
            s.is("no failure of kind " + kind, Looms.failure(Looms.thing(1, kind), "38 5 1"), 0);
        }
        for (int kind = 11; kind <= 15; kind++) {
            s.is("kind " + kind + " is no row", Looms.failure(Looms.thing(0, kind), "38 0 0"), 4);
        }
        s.is("NOTHING", Looms.failure("38 0 0"), 1);
    }
}
