/** Asks check() of one expression, among definitions that it can use. */
final class Texts {
    /** A variable of each type, by the type. */
    static final String[] VARIABLES = {"a", "b", "c", "d"};
    private final Expect expect;

    Texts(Expect expect) {
        this.expect = expect;
    }

    /** The expression is that of the first definition, so that its nodes are 0, 1, .. */
    static LevelTypes around(boolean changes, int type, String text) {
        LevelTypes x = new LevelTypes();
        Put.definition(x, changes, 'f', type, "a0 b1 c2 d3", text);
        Put.fun(x, 'k', 2, "a0 b1 c2 d3", "c");
        Put.chg(x, 'j', 1, "d3 a0", "19 2");
        Put.fun(x, 'n', 1, "", "2");
        Put.chg(x, 'o', 0, "", "19 0");
        Put.main(x);
        return x;
    }

    void due(boolean changes, int type, String text, int fault, int node) {
        LevelTypes x = around(changes, type, text);
        String what = (changes ? "chg of " : "fun of ") + type + ": " + text;
        expect.same(what, x.check(), fault);
        expect.same(what + ", look(2)", x.look(2), fault);
        expect.same(what + ", look(3)", x.look(3), node);
    }

    void fun(int type, String text, int fault, int node) {
        due(false, type, text, fault, node);
    }

    void chg(int type, String text, int fault, int node) {
        due(true, type, text, fault, node);
    }

    /** An E that has no fault in it is of this type, and can be the expression of no fun of another. */
    void type(String text, int type) {
        for (int of = 0; of < 4; of++) {
            fun(of, text, of == type ? 0 : 6, of == type ? -1 : 0);
        }
        LevelTypes x = around(false, type, text);
        x.check();
        expect.same(text + ": type(0)", x.type(0), type);
    }

    /** The text has a hole, _, at the given node, where only the given types can stand. */
    void hole(boolean changes, int type, String text, int node, String types) {
        for (int t = 0; t < 4; t++) {
            boolean right = types.contains(Integer.toString(t));
            due(changes, type, text.replace("_", VARIABLES[t]), right ? 0 : 6, right ? -1 : node);
        }
    }
}
