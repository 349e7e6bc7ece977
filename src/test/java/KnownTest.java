/** Promises 7, 8 and 9: type, binder and target. */
public final class KnownTest {
    private static final Expect expect = new Expect();
    private static final int[] ODD = {Integer.MIN_VALUE, -2, -1, Integer.MAX_VALUE};

    public static void main(String[] args) {
        ofAFun();
        ofAChg();
        hiding();
        targets();
        notKnown();
        expect.finish();
    }

    private static void row(LevelTypes x, String what, int from, int... due) {
        for (int i = 0; i < due.length; i++) {
            int k = from + i;
            int got = what.equals("type") ? x.type(k) : what.equals("binder") ? x.binder(k) : x.target(k);
            expect.same(what + "(" + k + ")", got, due[i]);
        }
    }

    private static void ofAFun() {
        LevelTypes x = new LevelTypes();
        Put.fun(x, 'f', 1, "a0 b1 c2 d3", "12:x:y b 2 11:z 3 a x 10 z 13 z y 14:f/4 x b 16 19 0 17 19 2");
        Put.main(x);
        expect.same("check()", x.check(), 0);
        row(x, "type", 0, 1, 1, 1, 1, 0, 0, 0, 1, 0, 1, 0, 3, 1, 0, 1, 2, 0, 0, 3, 1, 1, 3);
        row(x, "binder", 0, -1, -3, -1, -1, -1, -2, 0, -1, 3, -1, 3, 0, -1, 0, -3, -1, -1, -1, -1, -1, -1, -2);
        row(x, "target", 0, -1, -1, -1, -1, -1, -1, -1, -1, -1, -1, -1, -1, 0, -1, -1, -1, -1, -1, -1, -1, -1, -1);
        for (int k : ODD) {
            row(x, "type", k, -1);
            row(x, "binder", k, -1);
            row(x, "target", k, -1);
        }
        row(x, "type", 22, -1);
        row(x, "binder", 22, -1);
        row(x, "target", 22, -1);
    }

    private static void ofAChg() {
        LevelTypes x = new LevelTypes();
        Put.chg(x, 'g', 0, "c2 d3", "18:x d 22:h:t x 19 0 18:y c 20 y 21:z h 19 z 23:g/2 c t");
        Put.main(x);
        expect.same("check()", x.check(), 0);
        row(x, "type", 0, 0, 3, 0, 1, 0, 0, 0, 2, 0, 0, 0, 0, 0, 0, 0, 2, 3, 3);
        row(x, "binder", 0, -1, -3, -1, 0, -1, -1, -1, -2, -1, 6, -1, 2, -1, 10, -1, -2, 2, -2);
        row(x, "target", 12, -1, -1, 0, -1, -1);
    }

    private static void hiding() {
        LevelTypes x = new LevelTypes();
        Put.fun(x, 'f', 0, "a3 b1", "11:a b 11:a 12:b:c a 0 b a");
        Put.fun(x, 'g', 3, "a0 b1", "11:x 11:a b a 12:c:a b 17 19 2 a");
        Put.main(x);
        expect.same("check()", x.check(), 0);
        row(x, "binder", 0, -1, -3, -1, -1, 0, -1, 3, 2);
        row(x, "type", 0, 0, 1, 0, 0, 1, 0, 0, 0);
        row(x, "binder", 8, -1, -1, -3, 9, -1, -3, -1, -1, -1, 12);
        row(x, "type", 8, 3, 1, 1, 1, 3, 1, 3, 1, 1, 3);
    }

    private static void targets() {
        LevelTypes x = new LevelTypes();
        Put.fun(x, 'f', 0, "", "3 14:g/1 0 15:f/0");
        Put.fun(x, 'g', 0, "a0", "15:f/0");
        Put.chg(x, 'h', 1, "", "23:i/1 0");
        Put.chg(x, 'i', 1, "f0", "23:h/0");
        Put.main(x);
        expect.same("check()", x.check(), 0);
        row(x, "target", 0, -1, 1, -1, 0, 0, 3, -1, 2, -1);
        row(x, "type", 0, 0, 0, 0, 0, 0, 1, 0, 1, 3);
    }

    private static void notKnown() {
        LevelTypes x = new LevelTypes();
        Put.fun(x, 'f', 0, "a0", "14:f/1 a");
        nothingKnown("ahead of check()", x);
        Put.main(x);
        nothingKnown("ahead of check()", x);
        expect.same("check()", x.check(), 0);
        row(x, "target", 0, 0);
        row(x, "type", 1, 0);
        Put.fun(x, 'g', 0, "", "z");
        nothingKnown("more put in", x);
        expect.same("check()", x.check(), 4);
        nothingKnown("after a fault", x);
        LevelTypes y = new LevelTypes();
        Put.fun(y, 'f', 0, "a0", "3 14:f/1 a z");
        Put.main(y);
        expect.same("check()", y.check(), 5);
        nothingKnown("after fault 5", y);
    }

    private static void nothingKnown(String when, LevelTypes x) {
        for (int k = -1; k < 5; k++) {
            expect.none(when + ": type(" + k + ")", x.type(k));
            expect.none(when + ": binder(" + k + ")", x.binder(k));
            expect.none(when + ": target(" + k + ")", x.target(k));
        }
        expect.none(when + ": look(5)", x.look(5));
    }
}
