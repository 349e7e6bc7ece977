/** Promises 10 and 11: of and look. */
public final class LookTest {
    private static final Expect expect = new Expect();

    public static void main(String[] args) {
        ofNodes();
        looks();
        mostVariables();
        expect.finish();
    }

    private static void ofNodes() {
        LevelTypes x = new LevelTypes();
        Put.fun(x, 'f', 0, "", "10 3 0 0 14:q/0 12:x:y 2 0 x");
        Put.chg(x, 'g', 0, "", "18:x z 19 x");
        x.define(false, 'h', 0);
        x.node(14, 'q', 0, 7);
        x.node(16, 0, 0, 1);
        int[] kinds = {10, 3, 0, 0, 14, 12, 2, 0, 1, 18, 1, 19, 1, 14, 16};
        int[] parts = {3, 2, 0, 0, 0, 3, 0, 0, 0, 2, 0, 1, 0, 7, 1};
        int[] parents = {-1, 0, 1, 1, 0, 0, 5, 5, 5, -1, 9, 9, 11, -1, 13};
        int[] homes = {0, 0, 0, 0, 0, 0, 0, 0, 0, 1, 1, 1, 1, 2, 2};
        for (int k = 0; k < kinds.length; k++) {
            expect.same("of(" + k + ", 0)", x.of(k, 0), kinds[k]);
            expect.same("of(" + k + ", 1)", x.of(k, 1), parts[k]);
            expect.same("of(" + k + ", 2)", x.of(k, 2), parents[k]);
            expect.same("of(" + k + ", 3)", x.of(k, 3), homes[k]);
        }
        for (int w : new int[] {Integer.MIN_VALUE, -1, 4, 5, Integer.MAX_VALUE}) {
            expect.none("of(0, " + w + ")", x.of(0, w));
        }
        for (int k : new int[] {Integer.MIN_VALUE, -1, 15, 16, 4096, Integer.MAX_VALUE}) {
            for (int w = -1; w < 5; w++) {
                expect.none("of(" + k + ", " + w + ")", x.of(k, w));
            }
        }
    }

    private static void looks() {
        LevelTypes x = new LevelTypes();
        row("new", x, 0, 0, 0, -1, 1, -1);
        x.define(true, 'g', 1);
        row("define", x, 1, 0, 0, -1, 0, -1);
        x.parameter('a', 2);
        row("parameter", x, 1, 0, 0, -1, 0, -1);
        x.node(19, 0, 0, 1);
        row("node", x, 1, 1, 0, -1, 0, -1);
        x.node(1, 'a', 0, 0);
        row("whole", x, 1, 2, 0, -1, 1, -1);
        x.check();
        row("fault 4", x, 1, 2, 4, -1, 1, -1);
        Put.main(x);
        row("fault 4 stays", x, 2, 3, 4, -1, 1, -1);
        x.check();
        row("fault 6", x, 2, 3, 6, 1, 1, -1);
        x.define(false, 'h', 0);
        row("fault 6 stays", x, 3, 3, 6, 1, 0, -1);
        LevelTypes y = new LevelTypes();
        Put.main(y);
        y.check();
        row("no fault", y, 1, 1, 0, -1, 1, 1);
        Put.fun(y, 'h', 0, "", "0");
        row("more put in", y, 2, 2, 0, -1, 1, -1);
        y.check();
        row("fault 4 again", y, 2, 2, 4, -1, 1, -1);
    }

    private static void row(String when, LevelTypes x, int... due) {
        for (int which = 0; which < due.length; which++) {
            expect.same(when + ": look(" + which + ")", x.look(which), due[which]);
        }
        for (int which : new int[] {Integer.MIN_VALUE, -1, 6, 7, Integer.MAX_VALUE}) {
            expect.none(when + ": look(" + which + ")", x.look(which));
        }
    }

    private static void mostVariables() {
        most("", "0", 1);
        most("a0 b0", "0", 2);
        most("a0", "11:x 0 x", 2);
        most("a0", "11:x 11:y 0 0 11:z 0 0", 3);
        most("a0", "11:x 11:y 11:z 0 0 0 0", 2);
        most("a0", "3 11:x 0 0 11:y 0 0", 2);
        most("a0", "12:x:y 2 11:z 0 11:v 0 0 0", 3);
        most("a0", "12:x:y 2 0 11:z 0 0", 4);
        most("a0", "12:x:y 12:x:y 2 2 12:x:y 2 2 2 0 0", 5);
        most("", "11:x 16 18:x 17 21:y 0 19 2 21:z 0 22:v:w x 19 0 19 0 0", 4);
        // One that is hidden is there all the same: parameters are, in all of an expression.
        most("a0", "11:a 0 11:a 0 a", 3);
        most("a0 b0 c0 d0 e0 f0 g0 h0", "12:a:b 2 0 0", 10);
    }

    private static void most(String parameters, String text, int due) {
        LevelTypes x = new LevelTypes();
        Put.fun(x, 'f', 0, parameters, text);
        Put.main(x);
        expect.same(text + ": check()", x.check(), 0);
        expect.same(text + ": look(5)", x.look(5), due);
    }
}
