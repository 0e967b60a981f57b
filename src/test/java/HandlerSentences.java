/** Handlers and runs, as the terms tell them. */
final class HandlerSentences {
    private static final String TERMS = "Terms";

    private HandlerSentences() {
    }

    static void test(Sentences s) {
        limits(s);
        firstTold(s);
        places(s);
        masks(s);
        onAt(s);
        givenUp(s);
        andSoOn(s);
        stopped(s);
        goesOn(s);
        ends(s);
    }

    private static void limits(Sentences s) {
        s.of(TERMS, "HANDLERS, at most 16, are told by places from .. to - 1, a MASK and a place at.");
        FaultLoom x = Looms.loom("7", "0", "0");
        for (int i = 1; i <= 15; i++) {
            s.is("handler " + i, x.handler(0, 1, 0, 1), i);
        }
        s.is("handler 16", x.handler(0, 1, 1 << 6, 2), 16);
        s.is("handler 17", x.handler(0, 1, 1 << 6, 1), -2);
        x.start();
        x.step(1);
        s.is("the 16th is sought, too", x.state(2), 2);
    }

    private static void firstTold(Sentences s) {
        s.of(TERMS, "A failure n of a step is HANDLED by the first handler told");
        FaultLoom x = Looms.loom("7", "0", "0", "0");
        x.handler(0, 1, 1 << 6, 3);
        x.handler(0, 1, 1 << 6, 2);
        x.handler(0, 199, -1, 1);
        x.start();
        x.step(1);
        s.is("on at", x.state(2), 3);
    }

    /** Whether a failure of the step at a place is handled by a handler from .. to. */
    private static boolean handles(int place, int from, int to) {
        FaultLoom x = Looms.loom(Looms.join(Looms.times(place, "3"), "7"));
        x.handler(from, to, 1 << 6, 199);
        x.start();
        x.step(100);
        x.step(100);
        return x.state(10) == 2 && x.state(2) == 199;
    }

    private static void places(Sentences s) {
        s.of(TERMS, "for which the step's place is from .. to - 1");
        s.is("0 in 0 .. 0", handles(0, 0, 1), true);
        s.is("0 in none", handles(0, 0, 0), false);
        s.is("0 in 1 .. 198", handles(0, 1, 199), false);
        s.is("5 in 5 .. 5", handles(5, 5, 6), true);
        s.is("5 in 0 .. 5", handles(5, 0, 6), true);
        s.is("5 in 0 .. 4", handles(5, 0, 5), false);
        s.is("5 in 5 .. 198", handles(5, 5, 199), true);
        s.is("5 in 6 .. 198", handles(5, 6, 199), false);
        s.is("5 in none, to below from", handles(5, 6, 5), false);
        s.is("5 in none, to far below from", handles(5, 199, 0), false);
        s.is("149 in 149 .. 149", handles(149, 149, 150), true);
        s.is("149 in 0 .. 148", handles(149, 0, 149), false);
        s.is("149 in 0 .. 198", handles(149, 0, 199), true);
    }

    /** Steps that fail with a number at place 2. */
    private static String[] failing(int number) {
        switch (number) {
            case 1: return new String[] {"3", "3", "59 0 1"};
            case 2: return new String[] {"3", "31 1 4", "43 0 1 0"};
            case 3: return new String[] {"3", "1 0 -1", "31 0 4 0"};
            case 4: return new String[] {"3", "33 1 14", "59 0 1"};
            case 5: return new String[] {"33 0 11", "27 3", "57 0 1", "1 1 1", "31 1 9 1", "27 2"};
            case 6: return new String[] {"3", "3", "8"};
            case 7: return new String[] {"3", "1 0 13", "31 0 4 0"};
            default: return new String[] {Looms.word(0, number - 8), "67 0 0 1", "68 0"};
        }
    }

    private static void masks(Sentences s) {
        s.of(TERMS, "and bit n of the MASK is 1");
        for (int number = 1; number <= 23; number++) {
            for (int bit = 0; bit < 32; bit++) {
                s.is(number + " by bit " + bit + " alone", handledBy(number, 1 << bit), bit == number);
            }
            s.is(number + " by all others", handledBy(number, ~(1 << number)), false);
            s.is(number + " by all", handledBy(number, -1), true);
            s.is(number + " by none", handledBy(number, 0), false);
        }
    }

    private static boolean handledBy(int number, int mask) {
        FaultLoom x = Looms.loom(failing(number));
        x.handler(2, 3, mask, 199);
        x.start();
        x.step(100);
        return x.state(8) == number && x.state(9) == 2 && x.state(10) == 2;
    }

    private static void onAt(Sentences s) {
        s.of(TERMS, "the run goes on at its place at.");
        FaultLoom x = Looms.loom("3", "7");
        x.handler(1, 2, 1 << 6, 0);
        x.start();
        s.is("place 0", x.step(2), 0);
        s.is("it is there", x.state(2), 0);
        s.is("and again", x.step(98), 0);
        s.is("50 failures", x.state(7), 50);
        x = Looms.loom("29 1", "29 2", "7");
        x.handler(2, 3, 1 << 6, 0);
        x.start();
        x.step(3);
        s.is("place 0, in CALLs", x.state(2), 0);
        s.is("that are not given up", x.state(4), 2);
        x = Looms.loom("7");
        x.handler(0, 1, 1 << 6, 0);
        x.start();
        s.is("its own place", x.step(100), 0);
        s.is("100 failures", x.state(7), 100);
        x = Looms.loom("7");
        x.handler(0, 1, 1 << 6, 199);
        x.start();
        s.is("a place without a step", x.step(1), 1);
        s.is("is the last place", x.state(2), 199);
    }

    /** 0 CALL 2, 1 HALT, 2 CALL 4, 3 HALT, 4 fails. */
    private static FaultLoom deep() {
        return Looms.loom("29 2", "0", "29 4", "0", "7", "0", "30");
    }

    private static void givenUp(Sentences s) {
        s.of(TERMS, "If there is none, the latest CALL that has not returned is given up, and handlers are sought for it "
            + "(the CALL's place)");
        FaultLoom x = deep();
        x.handler(4, 5, 1 << 6, 6);
        x.start();
        x.step(3);
        s.is("there is one: none is given up", x.state(4), 2);
        x.step(1);
        s.is("the latest returns", x.state(2), 3);
        x = deep();
        x.handler(2, 3, 1 << 6, 6);
        x.start();
        x.step(3);
        s.is("one is given up", x.state(4), 1);
        s.is("on at", x.state(2), 6);
        s.is("the failure's place is its step's", x.state(9), 4);
        s.is("one failure", x.state(7), 1);
        x.step(1);
        s.is("the other returns", x.state(2), 1);
        x = deep();
        x.handler(3, 4, -1, 6);
        x.handler(1, 2, -1, 6);
        x.start();
        s.is("the places behind the CALLs are not sought", x.step(3), 2);
        x = Looms.loom("29 2", "7", "30");
        x.handler(0, 1, -1, 0);
        x.start();
        s.is("a CALL that has returned is not sought", x.step(3), 2);
    }

    private static void andSoOn(Sentences s) {
        s.of(TERMS, "and so on");
        FaultLoom x = deep();
        x.handler(0, 1, 1 << 6, 6);
        x.start();
        x.step(3);
        s.is("both are given up", x.state(4), 0);
        s.is("on at", x.state(2), 6);
        s.is("30 ends the run", x.step(1), 1);
        x = deep();
        x.handler(0, 1, 1 << 6, 1);
        x.handler(2, 3, 1 << 6, 5);
        x.start();
        x.step(3);
        s.is("the nearer one, though told later", x.state(2), 5);
        x = deep();
        x.handler(0, 1, 1 << 6, 5);
        x.handler(2, 5, ~(1 << 6), 1);
        x.start();
        x.step(3);
        s.is("the nearer ones do not name it", x.state(2), 5);
    }

    private static void stopped(Sentences s) {
        s.of(TERMS, "if there is none for any, the run has STOPPED.");
        FaultLoom x = deep();
        x.handler(0, 199, ~(1 << 6), 0);
        x.start();
        s.is("none names it", x.step(100), 2);
        s.is("stopped", x.state(10), 3);
        s.is("all are given up", x.state(4), 0);
        s.is("the place is the step's", x.state(2), 4);
        x = Looms.loom("7");
        x.start();
        s.is("no handler, no CALL", x.step(1), 2);
    }

    private static void goesOn(Sentences s) {
        s.of(TERMS, "A RUN goes from place 0 on, a step at a time, behind a step comes the next place, if nothing else is told.");
        FaultLoom x = Looms.loom("73", "1 0 1", "73", "1 0 2", "73", "28 0 0", "0");
        x.start();
        s.is("place 0", x.state(2), 0);
        for (int i = 1; i <= 6; i++) {
            s.is("a step", x.step(1), 0);
            s.is("the next place", x.state(2), i);
            s.is("one more", x.state(3), i);
        }
        s.is("told 0", x.told(0), 0);
        s.is("told 1", x.told(1), 1);
        s.is("told 2", x.told(2), 2);
        x.start();
        s.is("place 0 again", x.state(2), 0);
    }

    private static void ends(Sentences s) {
        s.of(TERMS, "It has ENDED by HALT, by 30 (see there), and when it is at a place where the program has no step.");
        s.is("HALT", Looms.stepped(1, "0", "0"), 1);
        s.is("HALT in a CALL", Looms.stepped(2, "29 1", "0"), 1);
        s.is("30", Looms.stepped(1, "30", "0"), 1);
        s.is("30 of a CALL", Looms.stepped(2, "29 1", "30"), 0);
        s.is("behind the last step", Looms.stepped(1, "3"), 1);
        s.is("by 27", Looms.stepped(1, "27 199"), 1);
        s.is("by 28", Looms.stepped(1, "28 0 2", "3"), 1);
        s.is("by 29", Looms.stepped(1, "29 2", "3"), 1);
        s.is("by 30", Looms.stepped(3, "27 2", "30", "29 1"), 1);
        FaultLoom x = Looms.loom("7");
        x.handler(0, 1, 1 << 6, 1);
        x.start();
        s.is("by a handler", x.step(1), 1);
        s.is("no step at all", new FaultLoom().start(), false);
        x = Looms.loom(Looms.times(150, "3"));
        x.start();
        x.step(100);
        s.is("149 of 150 steps", x.step(49), 0);
        s.is("150 of 150 steps", x.step(1), 1);
    }
}
