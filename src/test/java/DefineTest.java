/** Promise 3: define. */
public final class DefineTest {
    private static final Expect expect = new Expect();

    public static void main(String[] args) {
        types();
        names();
        oneBeforeNotWhole();
        sixtyFour();
        nothingIsKnownAfter();
        expect.finish();
    }

    private static void types() {
        int[] types = {Integer.MIN_VALUE, -1, 0, 1, 2, 3, 4, Integer.MAX_VALUE};
        for (int type : types) {
            boolean forFun = type >= 0 && type <= 3;
            boolean forChg = type == 0 || type == 1;
            expect.same("fun of type " + type, new LevelTypes().define(false, 1, type), forFun ? 0 : -1);
            expect.same("chg of type " + type, new LevelTypes().define(true, 1, type), forChg ? 0 : -1);
        }
    }

    private static void names() {
        LevelTypes x = new LevelTypes();
        expect.none("name 0", x.define(false, 0, 0));
        expect.none("name -1", x.define(false, -1, 0));
        expect.none("the least name", x.define(true, Long.MIN_VALUE, 0));
        expect.same("look(0)", x.look(0), 0);
        expect.same("the greatest name", x.define(false, Long.MAX_VALUE, 0), 0);
        x.node(0, 0, 0, 0);
        expect.none("the same name, fun", x.define(false, Long.MAX_VALUE, 0));
        expect.none("the same name, chg", x.define(true, Long.MAX_VALUE, 0));
        expect.same("name 1", x.define(true, 1, 0), 1);
        Put.expression(x, "19 0");
        expect.none("name 1 again", x.define(false, 1, 0));
        // Names are longs: their lower halves alone do not tell them apart.
        expect.same("name 1 + 2^32", x.define(false, 1L + (1L << 32), 0), 2);
        expect.same("look(0)", x.look(0), 3);
    }

    private static void oneBeforeNotWhole() {
        LevelTypes x = new LevelTypes();
        x.define(false, 1, 0);
        expect.none("behind one without a node", x.define(false, 2, 0));
        x.parameter(1, 0);
        expect.none("behind one with a parameter", x.define(false, 2, 0));
        x.node(3, 0, 0, 2);
        expect.none("behind one that lacks two", x.define(false, 2, 0));
        x.node(0, 0, 0, 0);
        expect.none("behind one that lacks one", x.define(false, 2, 0));
        x.node(0, 0, 0, 0);
        expect.same("behind a whole one", x.define(false, 2, 0), 1);
    }

    private static void sixtyFour() {
        LevelTypes x = new LevelTypes();
        for (int i = 0; i < 64; i++) {
            expect.same("definition " + i, x.define(false, 1000 - i, 0), i);
            x.node(0, 0, 0, 0);
        }
        expect.none("a 65th", x.define(false, 2000, 0));
        expect.same("look(0)", x.look(0), 64);
        expect.same("look(4)", x.look(4), 1);
    }

    private static void nothingIsKnownAfter() {
        LevelTypes x = new LevelTypes();
        Put.main(x);
        x.check();
        expect.none("a name that is there", x.define(false, Put.MAIN, 0));
        expect.same("type(0), after a refusal", x.type(0), 3);
        expect.same("look(5), after a refusal", x.look(5), 1);
        expect.same("define", x.define(false, 1, 0), 1);
        expect.none("type(0), after define", x.type(0));
        expect.none("binder(0), after define", x.binder(0));
        expect.none("look(5), after define", x.look(5));
    }
}
