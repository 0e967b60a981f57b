/** Promise 1: no steps, no handlers, no run; registers are 0 and NOTHING. */
public final class NewObjectTest {
    public static void main(String[] args) {
        Due due = new Due();
        FaultLoom x = new FaultLoom();
        for (int what = 0; what <= 10; what++) {
            due.is("state(" + what + ")", x.state(what), what == 9 ? -1 : 0);
        }
        for (int r = 0; r < 8; r++) {
            due.is("word(" + r + ")", x.word(r), 0);
            due.is("kind(" + r + ")", x.kind(r), -1);
            due.is("size(" + r + ")", x.size(r), -1);
            due.is("same(" + r + ")", x.same(r, r), false);
        }
        for (int r = 0; r < 4; r++) {
            due.is("wide(" + r + ")", x.wide(r), 0);
            due.real("single(" + r + ")", x.single(r), 0);
            due.real("real(" + r + ")", x.real(r), 0);
        }
        due.is("step(1)", x.step(1), -1);
        due.is("step(-1)", x.step(-1), -1);
        due.is("told(0)", x.told(0), 0);
        due.is("clear()", x.clear(), 0);
        due.end();
    }
}
