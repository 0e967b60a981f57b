/** Whether a loom answers as a model does, wherever one can look. */
final class Alike {
    private Alike() {
    }

    static void all(Due due, String of, FaultLoom x, LoomModel m) {
        states(due, of, x, m);
        numbers(due, of, x, m);
        for (int r = 0; r < 8; r++) {
            thing(due, of + " T" + r + ": ", r, x, m);
        }
    }

    private static void states(Due due, String of, FaultLoom x, LoomModel m) {
        for (int what = 0; what <= 10; what++) {
            due.is(of + " state(" + what + ")", x.state(what), m.state(what));
        }
        for (int i = 0; i < m.told.size() && i < 200; i++) {
            due.is(of + " told(" + i + ")", x.told(i), m.told.get(i));
        }
    }

    private static void numbers(Due due, String of, FaultLoom x, LoomModel m) {
        for (int r = 0; r < 8; r++) {
            due.is(of + " word(" + r + ")", x.word(r), m.w[r]);
        }
        for (int r = 0; r < 4; r++) {
            due.is(of + " wide(" + r + ")", x.wide(r), m.l[r]);
            due.real(of + " single(" + r + ")", x.single(r), m.f[r]);
            due.real(of + " real(" + r + ")", x.real(r), m.d[r]);
        }
    }

    private static void thing(Due due, String of, int r, FaultLoom x, LoomModel m) {
        due.is(of + "kind", x.kind(r), LoomModel.kind(m.t[r]));
        due.is(of + "size", x.size(r), m.size(r));
        for (int i = -1; i <= m.size(r); i++) {
            due.is(of + "cell(" + i + ")", x.cell(r, i), m.cell(r, i));
            due.real(of + "point(" + i + ")", x.point(r, i), m.point(r, i));
        }
        for (int what = 0; what < 3; what++) {
            due.is(of + "field(" + what + ")", x.field(r, what), m.field(r, what));
        }
        for (int q = r; q < 8; q++) {
            due.is(of + "same(" + q + ")", x.same(r, q), m.t[r] != null && m.t[r] == m.t[q]);
        }
    }
}
