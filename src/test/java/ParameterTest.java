/** Promise 4: parameter. */
public final class ParameterTest {
    private static final Expect expect = new Expect();

    public static void main(String[] args) {
        ordinary();
        wrongNamesAndTypes();
        eight();
        noneBehindANode();
        expect.finish();
    }

    private static void ordinary() {
        LevelTypes x = new LevelTypes();
        expect.none("without a definition", x.parameter(1, 0));
        x.define(false, 1, 0);
        for (int type = 0; type < 4; type++) {
            expect.same("of type " + type, x.parameter(10 + type, type), type + 1);
        }
        x.node(0, 0, 0, 0);
        x.define(true, 2, 0);
        expect.same("the first one of the next definition, by a name of the former", x.parameter(10, 3), 1);
        expect.same("by the name of its definition", x.parameter(2, 3), 2);
    }

    private static void wrongNamesAndTypes() {
        LevelTypes x = new LevelTypes();
        x.define(true, 1, 0);
        expect.none("name 0", x.parameter(0, 0));
        expect.none("name -5", x.parameter(-5, 0));
        expect.none("the least name", x.parameter(Long.MIN_VALUE, 0));
        expect.none("type -1", x.parameter(5, -1));
        expect.none("type 4", x.parameter(5, 4));
        expect.none("the least type", x.parameter(5, Integer.MIN_VALUE));
        expect.none("the greatest type", x.parameter(5, Integer.MAX_VALUE));
        expect.same("a right one", x.parameter(5, 2), 1);
        expect.none("its name again", x.parameter(5, 2));
        expect.none("its name again, of another type", x.parameter(5, 1));
        expect.same("a name with the same lower half", x.parameter(5L + (1L << 32), 2), 2);
    }

    private static void eight() {
        LevelTypes x = new LevelTypes();
        x.define(false, 1, 0);
        for (int i = 1; i <= 8; i++) {
            expect.same("parameter " + i, x.parameter(i, i % 4), i);
        }
        expect.none("a ninth", x.parameter(9, 0));
        expect.none("a ninth, again", x.parameter(9, 0));
        x.node(1, 8, 0, 0);
        Put.main(x);
        expect.same("check()", x.check(), 0);
        expect.same("binder(0)", x.binder(0), -9);
    }

    private static void noneBehindANode() {
        LevelTypes x = new LevelTypes();
        x.define(false, 1, 0);
        x.parameter(1, 0);
        x.node(3, 0, 0, 2);
        expect.none("behind a node", x.parameter(2, 0));
        x.node(0, 0, 0, 0);
        x.node(0, 0, 0, 0);
        expect.none("behind a whole one", x.parameter(2, 0));
        Put.main(x);
        x.check();
        expect.none("when known", x.parameter(2, 0));
        expect.same("type(0), after a refusal", x.type(0), 0);
        x.define(false, 2, 0);
        expect.same("behind define", x.parameter(2, 0), 1);
        expect.none("type(0)", x.type(0));
    }
}
