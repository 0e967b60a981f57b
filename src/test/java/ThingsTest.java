/** Promises 11 to 16: kind, size, cell, point, field and same, by the operations 31 to 67, 70 and 71. */
public final class ThingsTest {
    private static final Due DUE = new Due();
    private static final int[] WRONG = {-1, 8, Integer.MIN_VALUE, Integer.MAX_VALUE};

    public static void main(String[] args) {
        newRows();
        grid();
        newThings();
        kindsOfThings();
        narrowPuts();
        wordsAndLongs();
        singlesAndDoubles();
        knotsAndRings();
        gridPlaces();
        knotFields();
        turns();
        faults();
        sameThing();
        noSuchRegister();
        DUE.end();
    }

    private static void newRows() {
        for (int kind = 0; kind <= 9; kind++) {
            for (int places : new int[] {0, 1, 12}) {
                FaultLoom x = Due.ran(Due.s(1, 1, places, 0), Due.s(31, 7, kind, 1), Due.s(38, 2, 7, 0));
                String of = " of kind " + kind + " with " + places;
                DUE.is("kind" + of, x.kind(7), kind);
                DUE.is("size" + of, x.size(7), places);
                DUE.is("38" + of, x.word(2), places);
                DUE.is("made" + of, x.state(5), 1);
                for (int i = 0; i < places; i++) {
                    DUE.is("cell " + i + of, x.cell(7, i), kind >= 8 ? -1 : 0);
                    DUE.real("point " + i + of, x.point(7, i), 0);
                }
                DUE.is("cell -1" + of, x.cell(7, -1), 0);
                DUE.is("cell behind" + of, x.cell(7, places), 0);
                DUE.is("cell greatest" + of, x.cell(7, Integer.MAX_VALUE), 0);
                DUE.real("point -1" + of, x.point(7, -1), 0);
                DUE.real("point behind" + of, x.point(7, places), 0);
                for (int what = -1; what < 4; what++) {
                    DUE.is("field " + what + of, x.field(7, what), 0);
                }
            }
        }
    }

    private static void grid() {
        for (int rows = 0; rows <= 6; rows++) {
            for (int places = 0; places <= 6; places++) {
                FaultLoom x = Due.ran(Due.s(1, 1, rows, 0), Due.s(1, 2, places, 0), Due.s(32, 0, 1, 2), Due.s(38, 3, 0, 0));
                String of = " of " + rows + " by " + places;
                DUE.is("kind" + of, x.kind(0), 10);
                DUE.is("size" + of, x.size(0), rows);
                DUE.is("38" + of, x.word(3), rows);
                DUE.is("made" + of, x.state(5), 1 + rows);
                for (int i = 0; i < rows; i++) {
                    DUE.is("cell" + of, x.cell(0, i), places);
                }
                DUE.is("cell behind" + of, x.cell(0, rows), 0);
            }
        }
    }

    private static void newThings() {
        for (int kind = 11; kind <= 14; kind++) {
            FaultLoom x = Due.ran(Due.s(1, 1, -77, 0), Due.s(33, 0, kind, 1));
            DUE.is("kind", x.kind(0), kind);
            DUE.is("size of kind " + kind, x.size(0), -1);
            DUE.is("tag of kind " + kind, x.field(0, 0), -77);
            DUE.is("weight of kind " + kind, x.field(0, 1), 0);
            DUE.is("next of kind " + kind, x.field(0, 2), kind == 14 ? 0 : -1);
            DUE.is("field 3 of kind " + kind, x.field(0, 3), 0);
            DUE.is("field -1 of kind " + kind, x.field(0, -1), 0);
            DUE.is("cell of kind " + kind, x.cell(0, 0), 0);
            DUE.real("point of kind " + kind, x.point(0, 0), 0);
            DUE.is("made", x.state(5), 1);
        }
    }

    /** A step that makes T0 a thing of a kind. */
    static int[] maker(int kind) {
        if (kind == 10) {
            return Due.s(32, 0, 0, 0);
        }
        if (kind == 15) {
            return Due.s(67, 0, 0, 7);
        }
        return kind < 10 ? Due.s(31, 0, kind, 0) : Due.s(33, 0, kind, 0);
    }

    private static boolean is(int kind, int wanted) {
        switch (wanted) {
            case 8:
                return kind == 8 || kind == 9;
            case 11:
                return kind == 11 || kind == 12 || kind == 13;
            case 12:
                return kind == 12 || kind == 13;
            case 16:
                return kind == 11 || kind == 12 || kind == 13 || kind == 14;
            default:
                return kind == wanted;
        }
    }

    private static void kindsOfThings() {
        for (int kind = 0; kind <= 15; kind++) {
            for (int wanted = 0; wanted <= 16; wanted++) {
                FaultLoom x = Due.ran(maker(kind), Due.s(1, 1, 99, 0), Due.s(37, 1, 0, wanted));
                DUE.is(kind + " is of kind " + wanted, x.word(1), is(kind, wanted) ? 1 : 0);
            }
        }
        for (int wanted = 0; wanted <= 16; wanted++) {
            FaultLoom x = Due.ran(Due.s(1, 1, 99, 0), Due.s(37, 1, 0, wanted));
            DUE.is("NOTHING is of kind " + wanted, x.word(1), 0);
            DUE.is("no failure", x.state(7), 0);
        }
    }

    private static long narrowed(int kind, int value) {
        switch (kind) {
            case 0:
                return value & 1;
            case 1:
                return (byte) value;
            case 2:
                return (char) value;
            case 3:
                return (short) value;
            default:
                return value;
        }
    }

    private static void narrowPuts() {
        int[] values = {0, 1, 2, 3, -1, -2, 127, 128, -128, -129, 255, 256, 32767, 32768, -32768, -32769, 65535, 65536,
            -65537, Integer.MAX_VALUE, Integer.MIN_VALUE};
        for (int kind = 0; kind <= 4; kind++) {
            for (int value : values) {
                FaultLoom x = Due.ran(Due.s(1, 1, 3, 0), Due.s(1, 2, 2, 0), Due.s(1, 3, value, 0), Due.s(31, 5, kind, 1),
                    Due.s(49 + kind, 3, 5, 2), Due.s(39 + kind, 4, 5, 2), Due.s(1, 6, 99, 0), Due.s(39 + kind, 6, 5, 0));
                String of = " of " + value + " in kind " + kind;
                DUE.is("cell" + of, x.cell(5, 2), narrowed(kind, value));
                DUE.is("got" + of, x.word(4), narrowed(kind, value));
                DUE.is("W3" + of, x.word(3), value);
                DUE.is("place 0" + of, x.word(6), 0);
                DUE.is("place 1" + of, x.cell(5, 1), 0);
            }
        }
    }

    private static void wordsAndLongs() {
        for (long value : new long[] {1, -1, 1L << 40, Long.MIN_VALUE, Long.MAX_VALUE}) {
            FaultLoom x = Due.ran(Due.s(1, 1, 12, 0), Due.s(1, 2, 11, 0), Due.wide(1, value), Due.s(31, 5, 5, 1),
                Due.s(54, 1, 5, 2), Due.s(44, 3, 5, 2));
            DUE.is("cell", x.cell(5, 11), value);
            DUE.is("got", x.wide(3), value);
            DUE.real("point", x.point(5, 11), 0);
        }
    }

    private static void singlesAndDoubles() {
        FaultLoom x = Due.ran(Due.s(1, 1, 2, 0), Due.s(1, 2, 1, 0), Due.wide(1, -16777217), Due.s(15, 1, 1, 0),
            Due.s(21, 1, 1, 0), Due.s(16, 1, 1, 0), Due.s(22, 1, 1, 0), Due.s(31, 0, 6, 1), Due.s(31, 1, 7, 1),
            Due.s(55, 1, 0, 2), Due.s(56, 1, 1, 2), Due.s(45, 2, 0, 2), Due.s(46, 2, 1, 2));
        DUE.real("point of SINGLES", x.point(0, 1), -8388608);
        DUE.real("point of DOUBLES", x.point(1, 1), -8388608.5);
        DUE.real("F2", x.single(2), -8388608);
        DUE.real("D2", x.real(2), -8388608.5);
        DUE.real("place 0", x.point(0, 0), 0);
        DUE.is("cell of SINGLES", x.cell(0, 1), 0);
        DUE.is("cell of DOUBLES", x.cell(1, 1), 0);
    }

    private static void knotsAndRings() {
        for (int row = 8; row <= 9; row++) {
            for (int kind = 11; kind <= 13; kind++) {
                FaultLoom x = Due.ran(Due.s(1, 1, 2, 0), Due.s(1, 2, 1, 0), Due.s(31, 5, row, 1), Due.s(33, 0, kind, 1),
                    Due.s(57, 0, 5, 2), Due.s(47, 1, 5, 2), Due.s(57, 2, 5, 2), Due.s(47, 0, 5, 2));
                x.start();
                x.step(6);
                boolean stores = row == 8 || kind != 11;
                String of = " of kind " + kind + " in kind " + row;
                DUE.is("failure" + of, x.state(8), stores ? 0 : 5);
                DUE.is("cell" + of, x.cell(5, 1), stores ? kind : -1);
                DUE.is("same" + of, x.same(0, 1), stores);
                x.step(2);
                DUE.is("NOTHING put" + of, x.cell(5, 1), -1);
                DUE.is("NOTHING got" + of, x.kind(0), stores ? -1 : kind);
            }
        }
    }

    private static void gridPlaces() {
        FaultLoom x = Due.ran(Due.s(1, 1, 2, 0), Due.s(1, 2, 1, 0), Due.s(1, 3, 5, 0), Due.s(32, 0, 1, 1),
            Due.s(48, 1, 0, 2), Due.s(53, 3, 1, 2), Due.s(48, 2, 0, 2), Due.s(31, 3, 4, 3), Due.s(58, 3, 0, 4),
            Due.s(58, 7, 0, 2), Due.s(48, 4, 0, 2), Due.s(48, 5, 0, 4));
        DUE.is("no failure", x.state(7), 0);
        DUE.is("the row is the same", x.same(1, 2), true);
        DUE.is("its kind", x.kind(1), 4);
        DUE.is("put in it", x.cell(2, 1), 5);
        DUE.is("another row in the grid", x.cell(0, 0), 5);
        DUE.is("NOTHING in the grid", x.cell(0, 1), -1);
        DUE.is("NOTHING got", x.kind(4), -1);
        DUE.is("got", x.same(3, 5), true);
        DUE.is("made", x.state(5), 4);
    }

    private static void knotFields() {
        for (int kind = 11; kind <= 13; kind++) {
            FaultLoom x = Due.ran(Due.s(1, 1, 9, 0), Due.s(1, 2, -5, 0), Due.wide(1, 1L << 50), Due.s(33, 0, kind, 1),
                Due.s(33, 1, 13, 1), Due.s(59, 3, 0, 0), Due.s(60, 2, 0, 0), Due.s(59, 4, 0, 0), Due.s(62, 1, 0, 0),
                Due.s(61, 2, 0, 0), Due.s(64, 1, 0, 0), Due.s(63, 2, 0, 0), Due.s(64, 0, 1, 0));
            DUE.is("no failure", x.state(7), 0);
            DUE.is("first tag", x.word(3), 9);
            DUE.is("tag", x.word(4), -5);
            DUE.is("field 0", x.field(0, 0), -5);
            DUE.is("weight", x.wide(2), 1L << 50);
            DUE.is("field 1", x.field(0, 1), 1L << 50);
            DUE.is("field 2", x.field(0, 2), 13);
            DUE.is("next", x.same(1, 2), true);
            DUE.is("a ring of two", x.field(2, 2), kind);
            DUE.is("the other's tag", x.field(1, 0), 9);
            x.put(64, 7, 0, 0);
            x.start();
            x.step(100);
            DUE.is("NEXT is NOTHING", x.field(0, 2), -1);
        }
    }

    private static void turns() {
        int[] values = {0, 1, -1, 7, 65536, Integer.MAX_VALUE, Integer.MIN_VALUE};
        for (int kind = 11; kind <= 14; kind++) {
            for (int tag : values) {
                for (int by : values) {
                    int want = kind == 14 ? tag * by : kind == 13 ? (by + tag) * 2 + 1 : by + tag;
                    FaultLoom x = Due.ran(Due.s(1, 1, tag, 0), Due.s(1, 2, by, 0), Due.s(1, 3, 99, 0), Due.s(33, 0, kind, 1),
                        Due.s(66, 4, 0, 2), Due.s(65, 3, 0, 2));
                    String of = " of kind " + kind + ", " + tag + " by " + by;
                    DUE.is("66" + of, x.word(4), want);
                    DUE.is("65" + of, x.word(3), kind == 14 ? 99 : want);
                    DUE.is("failure" + of, x.state(8), kind == 14 ? 4 : 0);
                }
            }
        }
    }

    private static void faults() {
        for (int bits : new int[] {0, 1, 15, 16, 17, -1, -16, Integer.MIN_VALUE, Integer.MAX_VALUE}) {
            FaultLoom x = Due.ran(Due.s(1, 1, bits, 0), Due.s(67, 0, 1, 7), Due.s(67, 1, 2, 0), Due.s(70, 3, 0, 0),
                Due.s(71, 2, 1, 0), Due.s(71, 3, 0, 0));
            int number = 8 + Math.floorMod(bits, 16);
            DUE.is("no failure", x.state(7), 0);
            DUE.is("kind", x.kind(0), 15);
            DUE.is("size", x.size(0), -1);
            DUE.is("number of " + bits, x.word(3), number);
            DUE.is("field 0 of " + bits, x.field(0, 0), number);
            DUE.is("field 1", x.field(0, 1), 0);
            DUE.is("cause NOTHING", x.field(0, 2), -1);
            DUE.is("cause", x.field(1, 2), 15);
            DUE.is("71", x.same(0, 2), true);
            DUE.is("71 of NOTHING", x.kind(3), -1);
            DUE.is("made", x.state(5), 2);
        }
    }

    private static void sameThing() {
        FaultLoom x = Due.ran(Due.s(33, 0, 11, 0), Due.s(33, 1, 11, 0), Due.s(34, 2, 0, 0), Due.s(36, 1, 0, 2),
            Due.s(36, 2, 0, 1), Due.s(36, 3, 6, 7), Due.s(36, 4, 0, 7), Due.s(34, 3, 1, 0), Due.s(35, 3, 0, 0));
        DUE.is("same(0, 2)", x.same(0, 2), true);
        DUE.is("same(2, 0)", x.same(2, 0), true);
        DUE.is("same(0, 0)", x.same(0, 0), true);
        DUE.is("same(0, 1)", x.same(0, 1), false);
        DUE.is("same(6, 7)", x.same(6, 7), false);
        DUE.is("same(0, 7)", x.same(0, 7), false);
        DUE.is("36 of the same", x.word(1), 1);
        DUE.is("36 of two", x.word(2), 0);
        DUE.is("36 of NOTHING twice", x.word(3), 1);
        DUE.is("36 of one and NOTHING", x.word(4), 0);
        DUE.is("35", x.kind(3), -1);
        DUE.is("34 is no new thing", x.state(5), 2);
        for (int r : WRONG) {
            DUE.is("same(0, " + r + ")", x.same(0, r), false);
            DUE.is("same(" + r + ", 0)", x.same(r, 0), false);
            DUE.is("same(" + r + ", " + r + ")", x.same(r, r), false);
        }
    }

    private static void noSuchRegister() {
        FaultLoom x = Due.ran(Due.s(1, 1, 2, 0), Due.s(31, 0, 8, 1), Due.s(31, 7, 8, 1));
        for (int r : WRONG) {
            DUE.is("kind(" + r + ")", x.kind(r), -2);
            DUE.is("size(" + r + ")", x.size(r), -1);
            DUE.is("cell(" + r + ", 0)", x.cell(r, 0), 0);
            DUE.real("point(" + r + ", 0)", x.point(r, 0), 0);
            DUE.is("field(" + r + ", 0)", x.field(r, 0), 0);
            DUE.is("field(" + r + ", 2)", x.field(r, 2), 0);
        }
        DUE.is("cell of NOTHING", x.cell(1, 0), 0);
        DUE.real("point of NOTHING", x.point(1, 0), 0);
        DUE.is("field of NOTHING", x.field(1, 2), 0);
    }
}
