/** An object is as due up to its 512th call, whatever the calls before were: deep, wide, or cleared. */
public final class CallsTest {
    private static final Expect expect = new Expect();
    private static final int CALLS = 512;

    public static void main(String[] args) {
        Sentences sentences = new Sentences(expect);
        sentences.hold("An object is used for at most 512 calls after it has been made", CallsTest::allCalls);
        sentences.finish();
    }

    private static void allCalls() {
        nodesOnly();
        deepest(false);
        deepest(true);
        widest();
        checksOnly();
        clearsOnly();
    }

    /** All but the define are nodes: the last one's number is due. */
    private static void nodesOnly() {
        LevelTypes x = Forms.started(false);
        x.node(14, 5, 0, 1000);
        for (int call = 3; call < CALLS; call++) {
            expect.same("call " + call, x.node(0, 0, 0, 0), call - 2);
        }
        expect.same("the last call", x.look(1), CALLS - 2);
    }

    /** As deep as can be, of calls each in the other or of lets; the last calls look at what it comes to. */
    private static void deepest(boolean lets) {
        LevelTypes x = new LevelTypes();
        x.define(false, 'f', 0);
        x.parameter('a', 0);
        int nodes = 0;
        while (nodes < CALLS - 12) {
            nodes += lets ? deeperByLet(x) : deeperByCall(x);
        }
        int last = x.node(1, 'a', 0, 0);
        Put.main(x);
        expect.same("deepest: its last node", last, nodes);
        expect.same("deepest: check()", x.check(), 0);
        expect.same("deepest: binder", x.binder(last), -2);
        expect.same("deepest: of", x.of(last, 2), lets ? last - 2 : last - 1);
        expect.same("deepest: look(5)", x.look(5), lets ? 1 + nodes / 2 : 1);
        expect.same("deepest: type(0)", x.type(0), 0);
    }

    private static int deeperByCall(LevelTypes x) {
        x.node(14, 'f', 0, 1);
        return 1;
    }

    private static int deeperByLet(LevelTypes x) {
        x.node(11, 'b', 0, 2);
        x.node(1, 'a', 0, 0);
        return 2;
    }

    private static void widest() {
        LevelTypes x = new LevelTypes();
        int used = 0;
        for (int d = 0; d < 63; d++) {
            x.define(true, 1 + d, 1);
            x.parameter(1, 3);
            x.node(18, 2, 0, 2);
            x.node(1, 1, 0, 0);
            x.node(19, 0, 0, 1);
            x.node(1, 2, 0, 0);
            used += 6;
        }
        Put.main(x);
        used += 3;
        expect.same("widest: check()", x.check(), 0);
        used++;
        for (int k = 0; used < CALLS; k++, used++) {
            expect.same("widest: binder(" + k + ")", x.binder(k), k % 4 == 1 ? -2 : k % 4 == 3 ? k - 3 : -1);
        }
    }

    private static void checksOnly() {
        LevelTypes x = new LevelTypes();
        Put.fun(x, 'f', 0, "", "3 0 z");
        for (int call = 5; call <= CALLS; call++) {
            expect.same("check() as call " + call, x.check(), 4);
        }
        LevelTypes y = new LevelTypes();
        Put.fun(y, 'f', 0, "", "3 0 0");
        Put.main(y);
        for (int call = 8; call <= CALLS; call++) {
            expect.same("check() as call " + call, y.check(), 0);
        }
    }

    private static void clearsOnly() {
        LevelTypes x = new LevelTypes();
        for (int call = 1; call + 5 <= CALLS; call += 6) {
            x.clear();
            expect.same("define behind clear()", x.define(false, Put.MAIN, 3), 0);
            expect.same("parameter behind clear()", x.parameter(1, 3), 1);
            expect.same("node behind clear()", x.node(1, 1, 0, 0), 0);
            expect.same("check() behind clear()", x.check(), 0);
            expect.same("binder(0) behind clear()", x.binder(0), -2);
        }
    }
}
