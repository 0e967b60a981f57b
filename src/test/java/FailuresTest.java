/** The failures 1 to 7, which of several comes first, and that a failed step changes nothing. */
public final class FailuresTest {
    private static final Due DUE = new Due();

    public static void main(String[] args) {
        missing();
        casts();
        castAheadOfMissing();
        indexAheadOfStore();
        sizes();
        roomForThings();
        roomAfterCast();
        nothingChanges();
        DUE.end();
    }

    private static void missing() {
        int[] ops = {38, 39, 40, 41, 42, 43, 44, 45, 46, 47, 48, 49, 50, 51, 52, 53, 54, 55, 56, 57, 58, 59, 60, 61, 62,
            63, 64, 65, 66, 68, 70, 71};
        for (int op : ops) {
            FaultLoom x = Due.ran(Due.s(op, 0, 1, 2));
            DUE.is("stopped by " + op, x.state(10), 3);
            DUE.is("failure of " + op, x.state(8), 1);
        }
        for (int op : new int[] {34, 35, 36, 37, 67, 69}) {
            FaultLoom x = Due.ran(Due.s(op, 0, 1, 2));
            DUE.is("no failure of " + op, x.state(7), 0);
        }
    }

    /** Whether operation op can use a thing of the kind as its Tb (68: Ta). */
    private static boolean takes(int op, int kind) {
        boolean knot = kind >= 11 && kind <= 13;
        if (op == 38) {
            return kind <= 10;
        }
        if (op >= 39 && op <= 58) {
            int row = (op - 39) % 10;
            return row == 9 ? kind == 10 : kind == row || row == 8 && kind == 9;
        }
        if (op == 66) {
            return knot || kind == 14;
        }
        return op >= 68 ? kind == 15 : knot;
    }

    private static void casts() {
        for (int op = 38; op <= 71; op++) {
            if (op == 67 || op == 69) {
                continue;
            }
            for (int kind = 0; kind <= 15; kind++) {
                // A row of W0 = 1 place: so there is a place W2 = 0.
                FaultLoom x = Due.ran(Due.s(1, 0, 1, 0), ThingsTest.maker(kind), Due.s(34, 1, 0, 0), Due.s(35, 0, 0, 0),
                    op == 68 ? Due.s(68, 1, 0, 0) : Due.s(op, 0, 1, 2));
                int want = takes(op, kind) ? op == 68 ? 9 : 0 : 4;
                DUE.is("failure of " + op + " with kind " + kind, x.state(8), want);
            }
        }
        for (int kind = 0; kind <= 15; kind++) {
            boolean knot = kind >= 11 && kind <= 13;
            FaultLoom x = Due.ran(Due.s(1, 0, 1, 0), ThingsTest.maker(kind), Due.s(31, 1, 8, 0), Due.s(57, 0, 1, 2));
            DUE.is("57 puts kind " + kind, x.state(8), knot ? 0 : 4);
            x = Due.ran(Due.s(1, 0, 1, 0), ThingsTest.maker(kind), Due.s(32, 1, 0, 0), Due.s(58, 0, 1, 2));
            DUE.is("58 puts kind " + kind, x.state(8), kind == 4 ? 0 : 4);
            x = Due.ran(Due.s(1, 0, 1, 0), ThingsTest.maker(kind), Due.s(33, 1, 12, 0), Due.s(64, 0, 1, 0));
            DUE.is("64 puts kind " + kind, x.state(8), knot ? 0 : 4);
            x = Due.ran(Due.s(1, 0, 1, 0), ThingsTest.maker(kind), Due.s(67, 1, 0, 0));
            DUE.is("67 by kind " + kind, x.state(8), kind == 15 ? 0 : 4);
        }
    }

    private static void castAheadOfMissing() {
        // T0 a slip, T1 NOTHING, T2 KNOTS without a place.
        int[] slip = Due.s(33, 0, 14, 0);
        DUE.is("57", Due.ran(slip, Due.s(57, 0, 1, 0)).state(8), 4);
        DUE.is("58", Due.ran(slip, Due.s(58, 0, 1, 0)).state(8), 4);
        DUE.is("64", Due.ran(slip, Due.s(64, 0, 1, 0)).state(8), 4);
        DUE.is("57, no place", Due.ran(slip, Due.s(31, 2, 8, 0), Due.s(57, 0, 2, 0)).state(8), 4);
        DUE.is("57, NOTHING, no place", Due.ran(Due.s(1, 1, -1, 0), Due.s(57, 0, 1, 1)).state(8), 1);
        DUE.is("43 of LONGS, no place", Due.ran(Due.s(31, 2, 5, 0), Due.s(43, 0, 2, 0)).state(8), 4);
    }

    private static void indexAheadOfStore() {
        int[][] start = {Due.s(1, 0, 2, 0), Due.s(31, 1, 9, 0), Due.s(33, 2, 11, 0)};
        DUE.is("57 at place 2 of 2", Due.ran(start[0], start[1], start[2], Due.s(57, 2, 1, 0)).state(8), 2);
        DUE.is("57 at place 0", Due.ran(start[0], start[1], start[2], Due.s(57, 2, 1, 7)).state(8), 5);
        for (int kind = 0; kind <= 9; kind++) {
            int get = 39 + Math.min(kind, 8);
            for (int i : new int[] {-1, 2, Integer.MIN_VALUE, Integer.MAX_VALUE}) {
                FaultLoom x = Due.ran(Due.s(1, 0, 2, 0), Due.s(1, 1, i, 0), Due.s(31, 1, kind, 0), Due.s(get, 2, 1, 1));
                DUE.is("get of kind " + kind + " at " + i, x.state(8), 2);
                x = Due.ran(Due.s(1, 0, 2, 0), Due.s(1, 1, i, 0), Due.s(31, 1, kind, 0), Due.s(get + 10, 2, 1, 1));
                DUE.is("put of kind " + kind + " at " + i, x.state(8), 2);
            }
        }
    }

    private static void sizes() {
        int[] places = {-1, 0, 6, 7, 12, 13, Integer.MIN_VALUE, Integer.MAX_VALUE};
        for (int b : places) {
            for (int kind = 0; kind <= 9; kind++) {
                FaultLoom x = Due.ran(Due.s(1, 1, b, 0), Due.s(31, 0, kind, 1));
                DUE.is("31 of kind " + kind + " with " + b, x.state(8), b > 12 ? 7 : b < 0 ? 3 : 0);
            }
            for (int c : places) {
                FaultLoom x = Due.ran(Due.s(1, 1, b, 0), Due.s(1, 2, c, 0), Due.s(32, 0, 1, 2));
                DUE.is("32 with " + b + " and " + c, x.state(8), b > 6 || c > 6 ? 7 : b < 0 || c < 0 ? 3 : 0);
                DUE.is("made", x.state(5), x.state(8) == 0 ? 1 + b : 0);
            }
        }
    }

    /** A loom whose run has made so many things, W6 = -1, W5 = 3, and stands before the step that is tried. */
    private static FaultLoom made(int things, int[] tried) {
        FaultLoom x = Due.loom(Due.s(1, 6, -1, 0), Due.s(1, 5, 3, 0));
        for (int i = 0; i < things; i++) {
            x.put(33, 1, 14, 0);
        }
        x.put(tried[0], tried[1], tried[2], tried[3]);
        x.start();
        x.step(2 + things);
        x.step(1);
        return x;
    }

    private static void roomForThings() {
        int[][] makers = {Due.s(31, 0, 4, 0), Due.s(32, 0, 0, 0), Due.s(33, 0, 11, 0), Due.s(67, 0, 0, 7)};
        for (int[] maker : makers) {
            FaultLoom x = made(59, maker);
            DUE.is("the 60th by " + maker[0], x.state(8), 0);
            DUE.is("made", x.state(5), 60);
            x = made(60, maker);
            DUE.is("the 61st by " + maker[0], x.state(8), 7);
            DUE.is("made", x.state(5), 60);
            DUE.is("T0", x.kind(0), -1);
        }
        DUE.is("a grid of 4 at 56", made(56, Due.s(32, 0, 5, 0)).state(8), 0);
        FaultLoom x = made(57, Due.s(32, 0, 5, 0));
        DUE.is("a grid of 4 at 57", x.state(8), 7);
        DUE.is("made", x.state(5), 57);
        DUE.is("SIZE ahead of ROOM for things, 31", made(60, Due.s(31, 0, 4, 6)).state(8), 3);
        DUE.is("SIZE ahead of ROOM for things, 32", made(60, Due.s(32, 0, 0, 6)).state(8), 3);
        x.start();
        DUE.is("made in a new run", x.state(5), 0);
        x.step(59);
        DUE.is("no failure in a new run", x.state(7), 0);
    }

    private static void roomAfterCast() {
        DUE.is("CAST ahead of ROOM", made(60, Due.s(67, 0, 0, 1)).state(8), 4);
        DUE.is("ROOM", made(60, Due.s(67, 0, 0, 0)).state(8), 7);
    }

    /** Everything is in place, then each failing step leaves it so. */
    private static void nothingChanges() {
        int[][] failing = {Due.s(7, 1, 1, 7), Due.s(8, 1, 1, 7), Due.s(11, 1, 1, 3), Due.s(12, 1, 1, 3), Due.s(23, 1, 1, 3),
            Due.s(24, 1, 1, 3), Due.s(31, 1, 4, 2), Due.s(31, 1, 4, 3), Due.s(32, 1, 2, 1), Due.s(38, 1, 7, 0),
            Due.s(38, 1, 1, 0), Due.s(43, 1, 0, 2), Due.s(53, 1, 0, 2), Due.s(47, 1, 2, 2), Due.s(57, 1, 2, 7),
            Due.s(57, 1, 2, 2), Due.s(59, 1, 7, 0), Due.s(60, 1, 3, 0), Due.s(63, 1, 3, 0), Due.s(64, 3, 1, 0),
            Due.s(65, 1, 3, 1), Due.s(66, 1, 0, 1), Due.s(67, 1, 1, 3), Due.s(70, 1, 1, 0), Due.s(71, 1, 7, 0)};
        for (int[] step : failing) {
            FaultLoom x = Due.loom(Due.s(1, 1, 5, 0), Due.s(1, 2, -5, 0), Due.s(1, 3, 15, 0), Due.wide(1, 6), Due.s(15, 1, 1, 0),
                Due.s(16, 1, 1, 0), Due.s(31, 0, 4, 1), Due.s(53, 1, 0, 7), Due.s(33, 1, 11, 1), Due.s(31, 2, 9, 1),
                Due.s(33, 3, 14, 1), step);
            x.start();
            x.step(11);
            long before = sight(x);
            DUE.is("stopped by " + step[0], x.step(1), 2);
            DUE.is("seen after " + step[0], sight(x), before);
        }
    }

    private static long sight(FaultLoom x) {
        long seen = x.state(5) * 31L + x.state(6);
        for (int r = 0; r < 8; r++) {
            seen = seen * 31 + x.word(r);
            seen = seen * 31 + x.wide(r);
            seen = seen * 31 + Double.hashCode(x.single(r));
            seen = seen * 31 + Double.hashCode(x.real(r));
            seen = seen * 31 + x.kind(r);
            seen = seen * 31 + x.field(r, 0);
            seen = seen * 31 + x.field(r, 1);
            seen = seen * 31 + x.field(r, 2);
            for (int i = 0; i < 5; i++) {
                seen = seen * 31 + x.cell(r, i);
            }
        }
        return seen;
    }
}
