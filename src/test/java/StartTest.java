/** Promises 1 and 2: a new object, and clear. */
public final class StartTest {
    private static final Expect expect = new Expect();

    public static void main(String[] args) {
        asAtFirst("new", new LevelTypes());
        LevelTypes x = new LevelTypes();
        x.clear();
        asAtFirst("new, cleared", x);
        clearedWhenKnown(x);
        clearedAfterFault(x);
        clearedHalfWay(x);
        namesAreFreeAgain(x);
        roomIsFreeAgain(x);
        expect.finish();
    }

    private static void asAtFirst(String when, LevelTypes x) {
        int[] looks = {0, 0, 0, -1, 1, -1};
        for (int which = 0; which < looks.length; which++) {
            expect.same(when + ": look(" + which + ")", x.look(which), looks[which]);
        }
        expect.none(when + ": type(0)", x.type(0));
        expect.none(when + ": binder(0)", x.binder(0));
        expect.none(when + ": target(0)", x.target(0));
        for (int w = 0; w < 4; w++) {
            expect.none(when + ": of(0, " + w + ")", x.of(0, w));
        }
        expect.none(when + ": parameter", x.parameter(1, 0));
        expect.none(when + ": node", x.node(0, 0, 0, 0));
    }

    private static void clearedWhenKnown(LevelTypes x) {
        Put.main(x);
        expect.same("check()", x.check(), 0);
        x.clear();
        asAtFirst("cleared when known", x);
    }

    private static void clearedAfterFault(LevelTypes x) {
        Put.fun(x, 'f', 0, "", "z");
        Put.main(x);
        expect.same("check()", x.check(), 5);
        x.clear();
        asAtFirst("cleared after a fault", x);
        expect.same("check() of nothing", x.check(), 4);
        x.clear();
        asAtFirst("cleared after fault 4", x);
    }

    private static void clearedHalfWay(LevelTypes x) {
        x.define(true, 7, 1);
        x.node(18, 3, 0, 2);
        x.clear();
        asAtFirst("cleared half way", x);
    }

    private static void namesAreFreeAgain(LevelTypes x) {
        Put.main(x);
        x.clear();
        Put.main(x);
        expect.same("look(0)", x.look(0), 1);
        expect.same("check()", x.check(), 0);
        expect.same("binder(0)", x.binder(0), -2);
        x.clear();
    }

    private static void roomIsFreeAgain(LevelTypes x) {
        for (int i = 0; i < 64; i++) {
            expect.same("define " + i, x.define(false, i + 1, 0), i);
            expect.same("node " + i, x.node(0, 0, 0, 0), i);
        }
        expect.none("define 64", x.define(false, 65, 0));
        x.clear();
        expect.same("define after clear", x.define(false, 65, 0), 0);
        expect.same("node after clear", x.node(0, 0, 0, 0), 0);
    }
}
