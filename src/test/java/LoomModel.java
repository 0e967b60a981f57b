import java.lang.reflect.Array;
import java.util.ArrayList;
import java.util.List;

/**
 * The document told once more, by other means: things are Java's own arrays and objects, and the failures
 * are those that the Java machine throws by itself. It has no part of FaultLoom's code in it.
 */
final class LoomModel {
    interface Ops {
        int turn(int x);
    }

    static class Knot implements Ops {
        int tag;
        long weight;
        Knot next;

        public int turn(int x) {
            return x + tag;
        }
    }

    static class Ring extends Knot {
    }

    static class Bow extends Ring {
        @Override
        public int turn(int x) {
            return super.turn(x) * 2 + 1;
        }
    }

    static class Slip implements Ops {
        int tag;

        public int turn(int x) {
            return tag * x;
        }
    }

    static class Fault extends RuntimeException {
        private static final long serialVersionUID = 1;
        final int number;
        final transient Fault reason;

        Fault(int number, Fault reason) {
            this.number = number;
            this.reason = reason;
        }
    }

    static class NoRoom extends RuntimeException {
        private static final long serialVersionUID = 1;
    }

    private static final Class<?>[] KINDS = {boolean[].class, byte[].class, char[].class, short[].class, int[].class,
        long[].class, float[].class, double[].class, Knot[].class, Ring[].class, int[][].class, Knot.class, Ring.class,
        Bow.class, Slip.class, Fault.class, Ops.class};

    final List<int[]> steps = new ArrayList<>();
    final List<int[]> handlers = new ArrayList<>();
    final List<Integer> told = new ArrayList<>();
    final List<Integer> calls = new ArrayList<>();
    int[] w = new int[8];
    long[] l = new long[4];
    float[] f = new float[4];
    double[] d = new double[4];
    Object[] t = new Object[8];
    int place;
    int done;
    int made;
    int failures;
    int failure;
    int failurePlace = -1;
    int handled;
    Fault handledFault;
    int status;

    void start() {
        w = new int[8];
        l = new long[4];
        f = new float[4];
        d = new double[4];
        t = new Object[8];
        told.clear();
        calls.clear();
        place = 0;
        done = 0;
        made = 0;
        failures = 0;
        failure = 0;
        failurePlace = -1;
        handled = 0;
        handledFault = null;
        status = steps.isEmpty() ? 2 : 1;
    }

    int step(int n) {
        for (int i = 0; i < n && status == 1; i++) {
            one();
        }
        return status - 1;
    }

    private void one() {
        int here = place;
        done++;
        place++;
        try {
            perform(steps.get(here), here);
            if (status == 1 && place >= steps.size()) {
                status = 2;
            }
        } catch (RuntimeException e) {
            fail(e, here);
        }
    }

    private static int number(RuntimeException e) {
        if (e instanceof Fault) {
            return ((Fault) e).number;
        }
        if (e instanceof NullPointerException) {
            return 1;
        }
        if (e instanceof ArrayIndexOutOfBoundsException) {
            return 2;
        }
        if (e instanceof NegativeArraySizeException) {
            return 3;
        }
        if (e instanceof ClassCastException) {
            return 4;
        }
        if (e instanceof ArrayStoreException) {
            return 5;
        }
        if (e instanceof ArithmeticException) {
            return 6;
        }
        if (e instanceof NoRoom) {
            return 7;
        }
        throw e;
    }

    private void fail(RuntimeException e, int here) {
        failure = number(e);
        failures++;
        failurePlace = here;
        int sought = here;
        while (true) {
            for (int[] h : handlers) {
                if (sought >= h[0] && sought <= h[1] - 1 && (h[2] & 1 << failure) != 0) {
                    handled = failure;
                    handledFault = e instanceof Fault ? (Fault) e : null;
                    place = h[3];
                    status = place < steps.size() ? 1 : 2;
                    return;
                }
            }
            if (calls.isEmpty()) {
                place = here;
                status = 3;
                return;
            }
            sought = calls.remove(calls.size() - 1);
        }
    }

    private void perform(int[] s, int here) {
        int op = s[0];
        int a = s[1];
        int b = s[2];
        int c = s[3];
        if (op >= 1 && op <= 26) {
            numbers(op, a, b, c);
        } else if (op <= 30) {
            control(op, a, b, here);
        } else if (op <= 38) {
            things(op, a, b, c);
        } else if (op <= 58) {
            rows(op, a, b, c);
        } else {
            others(op, a, b, c);
        }
    }

    private static void notZero(boolean zero) {
        if (zero) {
            throw new ArithmeticException();
        }
    }

    private void numbers(int op, int a, int b, int c) {
        switch (op) {
            case 1: w[a] = b; break;
            case 2: l[a] = b * 4294967296L + Integer.toUnsignedLong(c); break;
            case 3: w[a] = w[b]; break;
            case 4: w[a] = w[b] + w[c]; break;
            case 5: w[a] = w[b] - w[c]; break;
            case 6: w[a] = w[b] * w[c]; break;
            case 7: w[a] = w[b] / w[c]; break;
            case 8: w[a] = w[b] % w[c]; break;
            case 9: l[a] = l[b] + l[c]; break;
            case 10: l[a] = l[b] * l[c]; break;
            case 11: l[a] = l[b] / l[c]; break;
            case 12: l[a] = l[b] % l[c]; break;
            case 13: l[a] = w[b]; break;
            case 14: w[a] = (int) l[b]; break;
            case 15: f[a] = l[b]; break;
            case 16: d[a] = l[b]; break;
            case 17: l[a] = (long) f[b]; break;
            case 18: w[a] = (int) d[b]; break;
            case 19: d[a] = f[b]; break;
            case 20: f[a] = (float) d[b]; break;
            case 21: f[a] = f[b] * 0.5f; break;
            case 22: d[a] = d[b] * 0.5; break;
            case 23: notZero(f[c] == 0); f[a] = f[b] % f[c]; break;
            case 24: notZero(d[c] == 0); d[a] = d[b] % d[c]; break;
            case 25: w[a] = w[b] < w[c] ? 1 : 0; break;
            default: w[a] = d[b] < d[c] ? 1 : 0; break;
        }
    }

    private void control(int op, int a, int b, int here) {
        switch (op) {
            case 0: place = here; status = 2; break;
            case 27: place = a; break;
            case 28: if (w[a] == 0) place = b; break;
            case 29:
                if (calls.size() == 12) {
                    throw new NoRoom();
                }
                calls.add(here);
                place = a;
                break;
            default:
                if (calls.isEmpty()) {
                    place = here;
                    status = 2;
                } else {
                    place = calls.remove(calls.size() - 1) + 1;
                }
                break;
        }
    }

    private Object counted(Object thing, int things) {
        if (made + things > 60) {
            throw new NoRoom();
        }
        made += things;
        return thing;
    }

    private static void limit(int places, int most) {
        if (places > most) {
            throw new NoRoom();
        }
    }

    private Object fresh(int kind, int tag) {
        if (kind == 14) {
            Slip slip = new Slip();
            slip.tag = tag;
            return slip;
        }
        Knot knot = kind == 11 ? new Knot() : kind == 12 ? new Ring() : new Bow();
        knot.tag = tag;
        return knot;
    }

    private void things(int op, int a, int b, int c) {
        switch (op) {
            case 31:
                limit(w[c], 12);
                t[a] = counted(Array.newInstance(KINDS[b].getComponentType(), w[c]), 1);
                break;
            case 32:
                limit(w[b], 6);
                limit(w[c], 6);
                t[a] = counted(new int[w[b]][w[c]], 1 + w[b]);
                break;
            case 33: t[a] = counted(fresh(b, w[c]), 1); break;
            case 34: t[a] = t[b]; break;
            case 35: t[a] = null; break;
            case 36: w[a] = t[b] == t[c] ? 1 : 0; break;
            case 37: w[a] = KINDS[c].isInstance(t[b]) ? 1 : 0; break;
            default: w[a] = length(t[b]); break;
        }
    }

    private static int length(Object row) {
        if (!row.getClass().isArray()) {
            throw new ClassCastException();
        }
        return Array.getLength(row);
    }

    private void rows(int op, int a, int b, int c) {
        switch (op) {
            case 39: w[a] = ((boolean[]) t[b])[w[c]] ? 1 : 0; break;
            case 40: w[a] = ((byte[]) t[b])[w[c]]; break;
            case 41: w[a] = ((char[]) t[b])[w[c]]; break;
            case 42: w[a] = ((short[]) t[b])[w[c]]; break;
            case 43: w[a] = ((int[]) t[b])[w[c]]; break;
            case 44: l[a] = ((long[]) t[b])[w[c]]; break;
            case 45: f[a] = ((float[]) t[b])[w[c]]; break;
            case 46: d[a] = ((double[]) t[b])[w[c]]; break;
            case 47: t[a] = ((Knot[]) t[b])[w[c]]; break;
            case 48: t[a] = ((int[][]) t[b])[w[c]]; break;
            case 49: ((boolean[]) t[b])[w[c]] = w[a] % 2 != 0; break;
            case 50: ((byte[]) t[b])[w[c]] = (byte) w[a]; break;
            case 51: ((char[]) t[b])[w[c]] = (char) w[a]; break;
            case 52: ((short[]) t[b])[w[c]] = (short) w[a]; break;
            case 53: ((int[]) t[b])[w[c]] = w[a]; break;
            case 54: ((long[]) t[b])[w[c]] = l[a]; break;
            case 55: ((float[]) t[b])[w[c]] = f[a]; break;
            case 56: ((double[]) t[b])[w[c]] = d[a]; break;
            case 57: ((Knot[]) t[b])[w[c]] = (Knot) t[a]; break;
            default: ((int[][]) t[b])[w[c]] = (int[]) t[a]; break;
        }
    }

    private void others(int op, int a, int b, int c) {
        switch (op) {
            case 59: w[a] = ((Knot) t[b]).tag; break;
            case 60: ((Knot) t[b]).tag = w[a]; break;
            case 61: l[a] = ((Knot) t[b]).weight; break;
            case 62: ((Knot) t[b]).weight = l[a]; break;
            case 63: t[a] = ((Knot) t[b]).next; break;
            case 64: ((Knot) t[b]).next = (Knot) t[a]; break;
            case 65: w[a] = ((Knot) t[b]).turn(w[c]); break;
            case 66: w[a] = ((Ops) t[b]).turn(w[c]); break;
            case 67: t[a] = counted(new Fault(8 + (w[b] & 15), (Fault) t[c]), 1); break;
            case 68: throw (Fault) t[a];
            case 69: t[a] = handledFault; break;
            case 70: w[a] = ((Fault) t[b]).number; break;
            case 71: t[a] = ((Fault) t[b]).reason; break;
            case 72: w[a] = handled; break;
            default: told.add(w[a]); break;
        }
    }

    static int kind(Object thing) {
        for (int k = 0; k < 16 && thing != null; k++) {
            if (thing.getClass() == KINDS[k]) {
                return k;
            }
        }
        return -1;
    }

    int size(int r) {
        return t[r] != null && t[r].getClass().isArray() ? Array.getLength(t[r]) : -1;
    }

    long cell(int r, int i) {
        if (i < 0 || i >= size(r)) {
            return 0;
        }
        Object at = Array.get(t[r], i);
        switch (kind(t[r])) {
            case 0: return (Boolean) at ? 1 : 0;
            case 2: return (Character) at;
            case 6:
            case 7: return 0;
            case 8:
            case 9: return kind(at);
            case 10: return at == null ? -1 : ((int[]) at).length;
            default: return ((Number) at).longValue();
        }
    }

    double point(int r, int i) {
        int kind = kind(t[r]);
        return kind != 6 && kind != 7 || i < 0 || i >= size(r) ? 0 : ((Number) Array.get(t[r], i)).doubleValue();
    }

    long field(int r, int what) {
        if (t[r] instanceof Knot) {
            Knot knot = (Knot) t[r];
            return what == 0 ? knot.tag : what == 1 ? knot.weight : what == 2 ? kind(knot.next) : 0;
        }
        if (t[r] instanceof Slip) {
            return what == 0 ? ((Slip) t[r]).tag : 0;
        }
        if (t[r] instanceof Fault) {
            Fault fault = (Fault) t[r];
            return what == 0 ? fault.number : what == 2 ? kind(fault.reason) : 0;
        }
        return 0;
    }

    int state(int what) {
        int[] all = {steps.size(), handlers.size(), place, done, calls.size(), made, told.size(), failures, failure,
            failurePlace, status};
        return all[what];
    }
}
