/** The promises told once more: the whole face, with every refusal, over LoomModel. */
final class FaceModel {
    final LoomModel loom = new LoomModel();
    private boolean hasRun;

    int put(int op, int a, int b, int c) {
        if (!Operands.fits(op, a, b, c)) {
            return -1;
        }
        if (loom.steps.size() == 150) {
            return -2;
        }
        hasRun = false;
        loom.steps.add(new int[] {op, a, b, c});
        return loom.steps.size();
    }

    int handler(int from, int to, int mask, int at) {
        for (int place : new int[] {from, to, at}) {
            if (place < 0 || place > 199) {
                return -1;
            }
        }
        if (loom.handlers.size() == 16) {
            return -2;
        }
        hasRun = false;
        loom.handlers.add(new int[] {from, to, mask, at});
        return loom.handlers.size();
    }

    int clear() {
        int steps = loom.steps.size();
        loom.steps.clear();
        loom.handlers.clear();
        hasRun = false;
        return steps;
    }

    boolean start() {
        hasRun = true;
        loom.start();
        return !loom.steps.isEmpty();
    }

    int step(int n) {
        if (!hasRun) {
            return -1;
        }
        return n < 0 || n > 100 ? -2 : loom.step(n);
    }

    private static boolean isOne(int r, int registers) {
        return r >= 0 && r < registers;
    }

    int word(int r) {
        return isOne(r, 8) ? loom.w[r] : 0;
    }

    long wide(int r) {
        return isOne(r, 4) ? loom.l[r] : 0;
    }

    double single(int r) {
        return isOne(r, 4) ? loom.f[r] : 0;
    }

    double real(int r) {
        return isOne(r, 4) ? loom.d[r] : 0;
    }

    int kind(int r) {
        return isOne(r, 8) ? LoomModel.kind(loom.t[r]) : -2;
    }

    int size(int r) {
        return isOne(r, 8) ? loom.size(r) : -1;
    }

    long cell(int r, int i) {
        return isOne(r, 8) ? loom.cell(r, i) : 0;
    }

    double point(int r, int i) {
        return isOne(r, 8) ? loom.point(r, i) : 0;
    }

    long field(int r, int what) {
        return isOne(r, 8) ? loom.field(r, what) : 0;
    }

    boolean same(int r, int q) {
        return isOne(r, 8) && isOne(q, 8) && loom.t[r] != null && loom.t[r] == loom.t[q];
    }

    int told(int i) {
        return i >= 0 && i < 200 && i < loom.told.size() ? loom.told.get(i) : 0;
    }

    int state(int what) {
        if (what < 0 || what > 10) {
            return -1;
        }
        return what == 10 && !hasRun ? 0 : loom.state(what);
    }
}
