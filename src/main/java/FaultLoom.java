/**
 * A loom: a small machine with words, longs, singles, doubles and things that may be missing.
 *
 * The numbers of operations, kinds and failures are those of the document. A step that can't be done
 * answers its failure's number, and NO_FAILURE if it was done; no exception is thrown anywhere.
 */
public final class FaultLoom {
    private static final int NO_FAILURE = 0;
    private static final int MISSING = 1;
    private static final int INDEX = 2;
    private static final int SIZE = 3;
    private static final int CAST = 4;
    private static final int STORE = 5;
    private static final int ZERO = 6;
    private static final int ROOM = 7;
    private static final int FIRST_THROWN = 8;

    private static final int FLAGS = 0;
    private static final int BYTES = 1;
    private static final int CHARS = 2;
    private static final int SHORTS = 3;
    private static final int WORDS = 4;
    private static final int LONGS = 5;
    private static final int SINGLES = 6;
    private static final int DOUBLES = 7;
    private static final int KNOTS = 8;
    private static final int RINGS = 9;
    private static final int GRID = 10;
    private static final int KNOT = 11;
    private static final int RING = 12;
    private static final int BOW = 13;
    private static final int SLIP = 14;
    private static final int FAULT = 15;
    private static final int OPS = 16;

    private static final int NO_RUN = 0;
    private static final int GOING = 1;
    private static final int ENDED = 2;
    private static final int STOPPED = 3;

    private static final int PLACES = 200;
    // How many registers there are of words and of things; of longs, of singles and of doubles.
    private static final int WORDS_OR_THINGS = 8;
    private static final int LONGS_OR_BROKEN = 4;
    private static final int MOST_STEPS = 150;
    private static final int MOST_HANDLERS = 16;
    private static final int MOST_CALLS = 12;
    private static final int MOST_THINGS = 60;
    private static final int MOST_ROW_PLACES = 12;
    private static final int MOST_GRID_PLACES = 6;
    private static final int MOST_TOLD = 200;
    private static final int MOST_STEPS_A_CALL = 100;

    // What an operation's a, b and c name; these are the digits of SHAPES.
    private static final int A_WORD = 1;
    private static final int A_LONG = 2;
    private static final int A_SINGLE = 3;
    private static final int A_DOUBLE = 4;
    private static final int A_THING = 5;
    private static final int A_PLACE = 6;
    private static final int A_ROW_KIND = 7;
    private static final int A_NEW_KIND = 8;
    private static final int ANY_KIND = 9;

    /** For each operation three digits, of a, b and c; 0 is what names nothing, so any number will do. */
    private static final int[] SHAPES = {
        0, 100, 200, 110, 111, 111, 111, 111, 111, 222,
        222, 222, 222, 210, 120, 320, 420, 230, 140, 430,
        340, 330, 440, 333, 444, 111, 144, 600, 160, 600,
        0, 571, 511, 581, 550, 500, 155, 159, 150, 151,
        151, 151, 151, 151, 251, 351, 451, 551, 551, 151,
        151, 151, 151, 151, 251, 351, 451, 551, 551, 150,
        150, 250, 250, 550, 550, 151, 151, 515, 500, 500,
        150, 550, 100, 100
    };

    private final Program program;
    private final Registers registers;
    private final Run run;

    public FaultLoom() {
        program = new Program();
        registers = new Registers();
        run = new Run(program, registers);
    }

    public int put(int op, int a, int b, int c) {
        if (!fitsShape(op, a, b, c)) {
            return -1;
        }
        if (program.stepCount >= MOST_STEPS) {
            return -2;
        }
        run.giveUp();
        return program.addStep(new Step(op, a, b, c));
    }

    public int handler(int from, int to, int mask, int at) {
        if (!isPlace(from) || !isPlace(to) || !isPlace(at)) {
            return -1;
        }
        if (program.handlerCount >= MOST_HANDLERS) {
            return -2;
        }
        run.giveUp();
        return program.addHandler(new Handler(from, to, mask, at));
    }

    public int clear() {
        int steps = program.stepCount;
        program.forget();
        run.giveUp();
        return steps;
    }

    public boolean start() {
        registers.reset();
        run.begin();
        return program.stepCount > 0;
    }

    public int step(int n) {
        if (run.phase == NO_RUN) {
            return -1;
        }
        if (n < 0 || n > MOST_STEPS_A_CALL) {
            return -2;
        }
        for (int i = 0; i < n && run.phase == GOING; i++) {
            run.doStep(program.getStep(run.place));
        }
        return run.phase - GOING;
    }

    public int word(int r) {
        return registers.getWord(r);
    }

    public long wide(int r) {
        return registers.getLong(r);
    }

    public double single(int r) {
        return registers.getSingle(r);
    }

    public double real(int r) {
        return registers.getDouble(r);
    }

    public int kind(int r) {
        return registers.hasThing(r) ? kindOf(registers.getThing(r)) : -2;
    }

    public int size(int r) {
        return placesOf(registers.getThing(r));
    }

    public long cell(int r, int i) {
        Thing row = registers.getThing(r);
        if (row == null || !row.hasPlace(i)) {
            return 0;
        }
        if (row.isOf(KNOTS)) {
            return kindOf(row.getMember(i));
        }
        if (row.isOf(GRID)) {
            return placesOf(row.getMember(i));
        }
        return row.getNumber(i);
    }

    public double point(int r, int i) {
        Thing row = registers.getThing(r);
        return row == null ? 0 : row.getPoint(i);
    }

    public long field(int r, int what) {
        Thing thing = registers.getThing(r);
        if (thing == null) {
            return 0;
        }
        switch (what) {
            case 0:
                return thing.tag;
            case 1:
                return thing.weight;
            case 2:
                return thing.isOf(KNOT) || thing.isOf(FAULT) ? kindOf(thing.link) : 0;
            default:
                return 0;
        }
    }

    public boolean same(int r, int q) {
        Thing thing = registers.getThing(r);
        return thing != null && thing == registers.getThing(q);
    }

    public int told(int i) {
        return run.getTold(i);
    }

    public int state(int what) {
        switch (what) {
            case 0:
                return program.stepCount;
            case 1:
                return program.handlerCount;
            default:
                return run.report(what);
        }
    }

    private static boolean isPlace(int place) {
        return place >= 0 && place < PLACES;
    }

    private static boolean fitsShape(int op, int a, int b, int c) {
        if (op < 0 || op >= SHAPES.length) {
            return false;
        }
        int shape = SHAPES[op];
        return isNamed(shape / 100, a) && isNamed(shape / 10 % 10, b) && isNamed(shape % 10, c);
    }

    private static boolean isNamed(int shape, int number) {
        switch (shape) {
            case A_WORD:
            case A_THING:
                return number >= 0 && number < WORDS_OR_THINGS;
            case A_LONG:
            case A_SINGLE:
            case A_DOUBLE:
                return number >= 0 && number < LONGS_OR_BROKEN;
            case A_PLACE:
                return isPlace(number);
            case A_ROW_KIND:
                return number >= FLAGS && number <= RINGS;
            case A_NEW_KIND:
                return number >= KNOT && number <= SLIP;
            case ANY_KIND:
                return number >= FLAGS && number <= OPS;
            default:
                return true;
        }
    }

    private static int kindOf(Thing thing) {
        return thing == null ? -1 : thing.kind;
    }

    private static int placesOf(Thing thing) {
        return thing == null || !thing.isRow() ? -1 : thing.places;
    }

    /** Whether there is a thing of another kind; NOTHING is none, as MISSING comes later than CAST. */
    private static boolean misfits(Thing thing, int wanted) {
        return thing != null && !thing.isOf(wanted);
    }

    private static final class Step {
        final int op;
        final int a;
        final int b;
        final int c;

        Step(int op, int a, int b, int c) {
            this.op = op;
            this.a = a;
            this.b = b;
            this.c = c;
        }
    }

    private static final class Handler {
        final int from;
        final int to;
        final int mask;
        final int at;

        Handler(int from, int to, int mask, int at) {
            this.from = from;
            this.to = to;
            this.mask = mask;
            this.at = at;
        }

        boolean names(int place, int failure) {
            return place >= from && place < to && (mask >>> failure & 1) == 1;
        }
    }

    private static final class Program {
        final Step[] steps;
        final Handler[] handlers;
        int stepCount;
        int handlerCount;

        Program() {
            steps = new Step[MOST_STEPS];
            handlers = new Handler[MOST_HANDLERS];
        }

        int addStep(Step added) {
            if (stepCount >= 0 && stepCount < steps.length) {
                steps[stepCount] = added;
                stepCount++;
            }
            return stepCount;
        }

        int addHandler(Handler added) {
            if (handlerCount >= 0 && handlerCount < handlers.length) {
                handlers[handlerCount] = added;
                handlerCount++;
            }
            return handlerCount;
        }

        void forget() {
            stepCount = 0;
            handlerCount = 0;
        }

        /** The step at a place, null where the program has none. */
        Step getStep(int place) {
            return place >= 0 && place < stepCount && place < steps.length ? steps[place] : null;
        }

        /** Where the first handler that names the failure goes on, -1 if there is none. */
        int seekHandler(int place, int failure) {
            for (int i = 0; i < handlerCount && i < handlers.length; i++) {
                Handler known = handlers[i];
                if (known != null && known.names(place, failure)) {
                    return known.at;
                }
            }
            return -1;
        }
    }

    /** Each look at a register that there is none such answers 0 or NOTHING, as the face wants it. */
    private static final class Registers {
        final int[] words;
        final long[] longs;
        final float[] singles;
        final double[] doubles;
        final Thing[] things;

        Registers() {
            words = new int[WORDS_OR_THINGS];
            longs = new long[LONGS_OR_BROKEN];
            singles = new float[LONGS_OR_BROKEN];
            doubles = new double[LONGS_OR_BROKEN];
            things = new Thing[WORDS_OR_THINGS];
        }

        void reset() {
            for (int r = 0; r < WORDS_OR_THINGS; r++) {
                setWord(r, 0);
                setThing(r, null);
            }
            for (int r = 0; r < LONGS_OR_BROKEN; r++) {
                setLong(r, 0);
                setSingle(r, 0);
                setDouble(r, 0);
            }
        }

        int getWord(int r) {
            return r >= 0 && r < words.length ? words[r] : 0;
        }

        void setWord(int r, int value) {
            if (r >= 0 && r < words.length) {
                words[r] = value;
            }
        }

        long getLong(int r) {
            return r >= 0 && r < longs.length ? longs[r] : 0;
        }

        void setLong(int r, long value) {
            if (r >= 0 && r < longs.length) {
                longs[r] = value;
            }
        }

        float getSingle(int r) {
            return r >= 0 && r < singles.length ? singles[r] : 0;
        }

        void setSingle(int r, float value) {
            if (r >= 0 && r < singles.length) {
                singles[r] = value;
            }
        }

        double getDouble(int r) {
            return r >= 0 && r < doubles.length ? doubles[r] : 0;
        }

        void setDouble(int r, double value) {
            if (r >= 0 && r < doubles.length) {
                doubles[r] = value;
            }
        }

        boolean hasThing(int r) {
            return r >= 0 && r < things.length;
        }

        Thing getThing(int r) {
            return r >= 0 && r < things.length ? things[r] : null;
        }

        void setThing(int r, Thing thing) {
            if (r >= 0 && r < things.length) {
                things[r] = thing;
            }
        }
    }

    /** A thing of any kind; what its kind does not have is 0, NOTHING or an array without places. */
    private static final class Thing {
        final int kind;
        final int places;
        final long[] numbers;
        final double[] points;
        final Thing[] members;
        int tag;
        long weight;
        Thing link;

        Thing(int kind, int wantedPlaces) {
            this.kind = kind;
            places = wantedPlaces < 0 ? 0 : wantedPlaces;
            numbers = new long[kind <= LONGS ? places : 0];
            points = new double[kind == SINGLES || kind == DOUBLES ? places : 0];
            members = new Thing[kind >= KNOTS && kind <= GRID ? places : 0];
        }

        boolean isRow() {
            return kind <= GRID;
        }

        boolean isOf(int wanted) {
            switch (wanted) {
                case KNOTS:
                    return kind == KNOTS || kind == RINGS;
                case KNOT:
                    return kind == KNOT || kind == RING || kind == BOW;
                case RING:
                    return kind == RING || kind == BOW;
                case OPS:
                    return kind >= KNOT && kind <= SLIP;
                default:
                    return kind == wanted;
            }
        }

        boolean hasPlace(int i) {
            return i >= 0 && i < places;
        }

        long getNumber(int i) {
            return i >= 0 && i < numbers.length ? numbers[i] : 0;
        }

        void setNumber(int i, long value) {
            if (i >= 0 && i < numbers.length) {
                numbers[i] = value;
            }
        }

        double getPoint(int i) {
            return i >= 0 && i < points.length ? points[i] : 0;
        }

        void setPoint(int i, double value) {
            if (i >= 0 && i < points.length) {
                points[i] = value;
            }
        }

        Thing getMember(int i) {
            return i >= 0 && i < members.length ? members[i] : null;
        }

        void setMember(int i, Thing member) {
            if (i >= 0 && i < members.length) {
                members[i] = member;
            }
        }

        int turn(int x) {
            if (kind == SLIP) {
                return tag * x;
            }
            return kind == BOW ? 2 * (x + tag) + 1 : x + tag;
        }
    }

    /** Operations 1 to 26: numbers alone. */
    private static final class Reckoner {
        // From the least double above 0 (2^-1074) to the greatest that a run can have (2^63).
        private static final int MOST_DOUBLINGS = 1137;

        final Registers registers;

        Reckoner(Registers registers) {
            this.registers = registers;
        }

        int reckon(Step now) {
            return now.op <= 14 ? reckonWhole(now) : reckonBroken(now);
        }

        private int reckonWhole(Step now) {
            int x = registers.getWord(now.b);
            int y = registers.getWord(now.c);
            long v = registers.getLong(now.b);
            long w = registers.getLong(now.c);
            switch (now.op) {
                case 1:
                    registers.setWord(now.a, now.b);
                    break;
                case 2:
                    registers.setLong(now.a, ((long) now.b << 32) + (now.c & 0xFFFFFFFFL));
                    break;
                case 3:
                    registers.setWord(now.a, x);
                    break;
                case 4:
                    registers.setWord(now.a, x + y);
                    break;
                case 5:
                    registers.setWord(now.a, x - y);
                    break;
                case 6:
                    registers.setWord(now.a, x * y);
                    break;
                case 7:
                case 8:
                    return divideWords(now, x, y);
                case 9:
                    registers.setLong(now.a, v + w);
                    break;
                case 10:
                    registers.setLong(now.a, v * w);
                    break;
                case 11:
                case 12:
                    return divideLongs(now, v, w);
                case 13:
                    registers.setLong(now.a, x);
                    break;
                default:
                    registers.setWord(now.a, (int) v);
                    break;
            }
            return NO_FAILURE;
        }

        private int divideWords(Step now, int x, int y) {
            if (y == 0) {
                return ZERO;
            }
            registers.setWord(now.a, now.op == 7 ? x / y : x % y);
            return NO_FAILURE;
        }

        private int divideLongs(Step now, long v, long w) {
            if (w == 0) {
                return ZERO;
            }
            registers.setLong(now.a, now.op == 11 ? v / w : v % w);
            return NO_FAILURE;
        }

        private int reckonBroken(Step now) {
            float f = registers.getSingle(now.b);
            double d = registers.getDouble(now.b);
            switch (now.op) {
                case 15:
                    registers.setSingle(now.a, (float) registers.getLong(now.b));
                    break;
                case 16:
                    registers.setDouble(now.a, (double) registers.getLong(now.b));
                    break;
                case 17:
                    registers.setLong(now.a, (long) f);
                    break;
                case 18:
                    registers.setWord(now.a, (int) d);
                    break;
                case 19:
                    registers.setDouble(now.a, f);
                    break;
                case 20:
                    registers.setSingle(now.a, (float) d);
                    break;
                case 21:
                    registers.setSingle(now.a, f / 2);
                    break;
                case 22:
                    registers.setDouble(now.a, d / 2);
                    break;
                case 23:
                    return restOfSingles(now, f, registers.getSingle(now.c));
                case 24:
                    return restOfDoubles(now, d, registers.getDouble(now.c));
                case 25:
                    registers.setWord(now.a, registers.getWord(now.b) < registers.getWord(now.c) ? 1 : 0);
                    break;
                default:
                    registers.setWord(now.a, d < registers.getDouble(now.c) ? 1 : 0);
                    break;
            }
            return NO_FAILURE;
        }

        private int restOfSingles(Step now, float x, float y) {
            if (y == 0) {
                return ZERO;
            }
            registers.setSingle(now.a, (float) restOf(x, y));
            return NO_FAILURE;
        }

        private int restOfDoubles(Step now, double x, double y) {
            if (y == 0) {
                return ZERO;
            }
            registers.setDouble(now.a, restOf(x, y));
            return NO_FAILURE;
        }

        /**
         * What x leaves by y, as in a long division by hand. Each doubling and halving is exact, and so is
         * each difference, since part <= left < 2 * part; x - y * (x / y) would be rounded.
         */
        private static double restOf(double x, double y) {
            double left = x < 0 ? -x : x;
            double part = y < 0 ? -y : y;
            int doublings = 0;
            while (doublings < MOST_DOUBLINGS && part + part <= left) {
                part = part + part;
                doublings++;
            }
            for (int k = doublings; k >= 0; k--) {
                if (part <= left) {
                    left = left - part;
                }
                if (k > 0) {
                    part = part / 2;
                }
            }
            return x < 0 ? -left : left;
        }
    }

    /** Operations 31 to 67, 70 and 71: things, and how many of them the run has made. */
    private static final class Weaver {
        final Registers registers;
        int made;

        Weaver(Registers registers) {
            this.registers = registers;
        }

        int weave(Step now) {
            if (now.op >= 39 && now.op <= 48) {
                return getFromRow(now, rowKind(now.op - 39));
            }
            if (now.op >= 49 && now.op <= 58) {
                return putIntoRow(now, rowKind(now.op - 49));
            }
            if (now.op >= 59 && now.op <= 66) {
                return useKnot(now);
            }
            switch (now.op) {
                case 31:
                    return makeRow(now);
                case 32:
                    return makeGrid(now);
                case 33:
                    return makeKnot(now);
                case 67:
                    return makeFault(now);
                case 70:
                case 71:
                    return useFault(now);
                default:
                    return lookAtThing(now);
            }
        }

        private static int rowKind(int operation) {
            return operation == 9 ? GRID : operation;
        }

        private boolean hasRoom(int things) {
            return made + things <= MOST_THINGS;
        }

        private int makeRow(Step now) {
            int places = registers.getWord(now.c);
            if (places > MOST_ROW_PLACES) {
                return ROOM;
            }
            if (places < 0) {
                return SIZE;
            }
            if (!hasRoom(1)) {
                return ROOM;
            }
            made++;
            registers.setThing(now.a, new Thing(now.b, places));
            return NO_FAILURE;
        }

        private int makeGrid(Step now) {
            int rows = registers.getWord(now.b);
            int places = registers.getWord(now.c);
            if (rows > MOST_GRID_PLACES || places > MOST_GRID_PLACES) {
                return ROOM;
            }
            if (rows < 0 || places < 0) {
                return SIZE;
            }
            if (!hasRoom(1 + rows)) {
                return ROOM;
            }
            made += 1 + rows;
            Thing grid = new Thing(GRID, rows);
            for (int i = 0; i < rows; i++) {
                grid.setMember(i, new Thing(WORDS, places));
            }
            registers.setThing(now.a, grid);
            return NO_FAILURE;
        }

        private int makeKnot(Step now) {
            if (!hasRoom(1)) {
                return ROOM;
            }
            made++;
            Thing knot = new Thing(now.b, 0);
            knot.tag = registers.getWord(now.c);
            registers.setThing(now.a, knot);
            return NO_FAILURE;
        }

        private int makeFault(Step now) {
            Thing cause = registers.getThing(now.c);
            if (misfits(cause, FAULT)) {
                return CAST;
            }
            if (!hasRoom(1)) {
                return ROOM;
            }
            made++;
            Thing fault = new Thing(FAULT, 0);
            fault.tag = FIRST_THROWN + (registers.getWord(now.b) & 15);
            fault.link = cause;
            registers.setThing(now.a, fault);
            return NO_FAILURE;
        }

        private int lookAtThing(Step now) {
            Thing thing = registers.getThing(now.b);
            switch (now.op) {
                case 34:
                    registers.setThing(now.a, thing);
                    break;
                case 35:
                    registers.setThing(now.a, null);
                    break;
                case 36:
                    registers.setWord(now.a, thing == registers.getThing(now.c) ? 1 : 0);
                    break;
                case 37:
                    registers.setWord(now.a, thing != null && thing.isOf(now.c) ? 1 : 0);
                    break;
                default:
                    return countPlaces(now, thing);
            }
            return NO_FAILURE;
        }

        private int countPlaces(Step now, Thing row) {
            if (row == null) {
                return MISSING;
            }
            if (!row.isRow()) {
                return CAST;
            }
            registers.setWord(now.a, row.places);
            return NO_FAILURE;
        }

        private int getFromRow(Step now, int wanted) {
            Thing row = registers.getThing(now.b);
            int i = registers.getWord(now.c);
            if (misfits(row, wanted)) {
                return CAST;
            }
            if (row == null) {
                return MISSING;
            }
            if (!row.hasPlace(i)) {
                return INDEX;
            }
            if (wanted <= WORDS) {
                registers.setWord(now.a, (int) row.getNumber(i));
            } else if (wanted == LONGS) {
                registers.setLong(now.a, row.getNumber(i));
            } else if (wanted == SINGLES) {
                registers.setSingle(now.a, (float) row.getPoint(i));
            } else if (wanted == DOUBLES) {
                registers.setDouble(now.a, row.getPoint(i));
            } else {
                registers.setThing(now.a, row.getMember(i));
            }
            return NO_FAILURE;
        }

        private int putIntoRow(Step now, int wanted) {
            Thing row = registers.getThing(now.b);
            // In the other operations a is no Ta; NOTHING stands for it, as that fits everywhere.
            Thing member = wanted >= KNOTS ? registers.getThing(now.a) : null;
            int i = registers.getWord(now.c);
            if (misfits(row, wanted) || misfits(member, wanted == GRID ? WORDS : KNOT)) {
                return CAST;
            }
            if (row == null) {
                return MISSING;
            }
            if (!row.hasPlace(i)) {
                return INDEX;
            }
            if (row.kind == RINGS && misfits(member, RING)) {
                return STORE;
            }
            if (wanted <= WORDS) {
                row.setNumber(i, narrow(wanted, registers.getWord(now.a)));
            } else if (wanted == LONGS) {
                row.setNumber(i, registers.getLong(now.a));
            } else if (wanted == SINGLES) {
                row.setPoint(i, registers.getSingle(now.a));
            } else if (wanted == DOUBLES) {
                row.setPoint(i, registers.getDouble(now.a));
            } else {
                row.setMember(i, member);
            }
            return NO_FAILURE;
        }

        private static int narrow(int rowKind, int value) {
            switch (rowKind) {
                case FLAGS:
                    return value & 1;
                case BYTES:
                    return (byte) value;
                case CHARS:
                    return (char) value;
                case SHORTS:
                    return (short) value;
                default:
                    return value;
            }
        }

        private int useKnot(Step now) {
            Thing knot = registers.getThing(now.b);
            if (misfits(knot, now.op == 66 ? OPS : KNOT)) {
                return CAST;
            }
            if (now.op == 64 && misfits(registers.getThing(now.a), KNOT)) {
                return CAST;
            }
            if (knot == null) {
                return MISSING;
            }
            switch (now.op) {
                case 59:
                    registers.setWord(now.a, knot.tag);
                    break;
                case 60:
                    knot.tag = registers.getWord(now.a);
                    break;
                case 61:
                    registers.setLong(now.a, knot.weight);
                    break;
                case 62:
                    knot.weight = registers.getLong(now.a);
                    break;
                case 63:
                    registers.setThing(now.a, knot.link);
                    break;
                case 64:
                    knot.link = registers.getThing(now.a);
                    break;
                default:
                    registers.setWord(now.a, knot.turn(registers.getWord(now.c)));
                    break;
            }
            return NO_FAILURE;
        }

        private int useFault(Step now) {
            Thing fault = registers.getThing(now.b);
            if (fault == null) {
                return MISSING;
            }
            if (!fault.isOf(FAULT)) {
                return CAST;
            }
            if (now.op == 70) {
                registers.setWord(now.a, fault.tag);
            } else {
                registers.setThing(now.a, fault.link);
            }
            return NO_FAILURE;
        }
    }

    /** The latest run: where it is, its calls, its failures and what it told. */
    private static final class Run {
        final Program program;
        final Registers registers;
        final Reckoner reckoner;
        final Weaver weaver;
        final int[] calls;
        final int[] numbersTold;
        int phase;
        int place;
        int next;
        int stepsDone;
        int callCount;
        int toldCount;
        int failureCount;
        int failure;
        int failurePlace;
        Thing thrown;

        Run(Program program, Registers registers) {
            this.program = program;
            this.registers = registers;
            reckoner = new Reckoner(registers);
            weaver = new Weaver(registers);
            calls = new int[MOST_CALLS];
            numbersTold = new int[MOST_TOLD];
            failurePlace = -1;
        }

        void begin() {
            stepsDone = 0;
            callCount = 0;
            toldCount = 0;
            failureCount = 0;
            failure = NO_FAILURE;
            failurePlace = -1;
            thrown = null;
            weaver.made = 0;
            phase = GOING;
            goTo(0);
        }

        void giveUp() {
            phase = NO_RUN;
        }

        void doStep(Step now) {
            if (now == null) {
                return;
            }
            stepsDone++;
            next = place + 1;
            int failed = perform(now);
            if (failed != NO_FAILURE) {
                fail(now, failed);
            } else if (phase == GOING) {
                goTo(next);
            }
        }

        int getTold(int i) {
            return i >= 0 && i < toldCount && i < numbersTold.length ? numbersTold[i] : 0;
        }

        int report(int what) {
            switch (what) {
                case 2:
                    return place;
                case 3:
                    return stepsDone;
                case 4:
                    return callCount;
                case 5:
                    return weaver.made;
                case 6:
                    return toldCount;
                case 7:
                    return failureCount;
                case 8:
                    return failure;
                case 9:
                    return failurePlace;
                case 10:
                    return phase;
                default:
                    return -1;
            }
        }

        private void goTo(int newPlace) {
            place = newPlace;
            if (program.getStep(newPlace) == null) {
                phase = ENDED;
            }
        }

        private int perform(Step now) {
            if (now.op >= 1 && now.op <= 26) {
                return reckoner.reckon(now);
            }
            switch (now.op) {
                case 0:
                    phase = ENDED;
                    return NO_FAILURE;
                case 27:
                    next = now.a;
                    return NO_FAILURE;
                case 28:
                    next = registers.getWord(now.a) == 0 ? now.b : next;
                    return NO_FAILURE;
                case 29:
                    return callPlace(now.a);
                case 30:
                    comeBack();
                    return NO_FAILURE;
                case 68:
                    return throwFault(registers.getThing(now.a));
                case 69:
                    registers.setThing(now.a, thrown);
                    return NO_FAILURE;
                case 72:
                    // A failure that is not handled stops the run, so here the latest one was handled.
                    registers.setWord(now.a, failure);
                    return NO_FAILURE;
                case 73:
                    tell(registers.getWord(now.a));
                    return NO_FAILURE;
                default:
                    return weaver.weave(now);
            }
        }

        private int callPlace(int target) {
            if (callCount < 0 || callCount >= calls.length) {
                return ROOM;
            }
            calls[callCount] = place;
            callCount++;
            next = target;
            return NO_FAILURE;
        }

        private void comeBack() {
            if (callCount <= 0) {
                phase = ENDED;
            } else {
                next = dropCall() + 1;
            }
        }

        /** Takes the latest call away and answers its place. */
        private int dropCall() {
            callCount--;
            return callCount >= 0 && callCount < calls.length ? calls[callCount] : -1;
        }

        private static int throwFault(Thing fault) {
            if (fault == null) {
                return MISSING;
            }
            return fault.isOf(FAULT) ? fault.tag : CAST;
        }

        private void tell(int value) {
            if (toldCount >= 0 && toldCount < numbersTold.length) {
                numbersTold[toldCount] = value;
            }
            toldCount++;
        }

        private void fail(Step now, int number) {
            failureCount++;
            failure = number;
            failurePlace = place;
            thrown = number >= FIRST_THROWN ? registers.getThing(now.a) : null;
            int at = program.seekHandler(place, number);
            for (int open = callCount; open > 0 && at < 0; open--) {
                at = program.seekHandler(dropCall(), number);
            }
            if (at < 0) {
                phase = STOPPED;
            } else {
                goTo(at);
            }
        }
    }
}
