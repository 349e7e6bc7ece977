/** Promise 6: check, and the faults that it finds. */
public final class CheckTest {
    private static final Expect expect = new Expect();
    private static final String[] OF_TYPE = {"a", "b", "c", "d"};

    public static void main(String[] args) {
        notWhole();
        lastDefinition();
        typesOfExpressions();
        typesOfChanges();
        definitionsTypes();
        variablesThatAreNotThere();
        functionsThatAreNotThere();
        firstFaultCounts();
        whatIsSaidStays();
        expect.finish();
    }

    private static void notWhole() {
        LevelTypes x = new LevelTypes();
        expect.same("of nothing", x.check(), 4);
        x.define(false, Put.MAIN, 3);
        expect.none("without a parameter", x.check());
        x.parameter('m', 3);
        expect.none("without a node", x.check());
        x.node(11, 'x', 0, 2);
        expect.none("lacking two", x.check());
        x.node(0, 0, 0, 0);
        expect.none("lacking one", x.check());
        expect.same("look(2) is still that of the latest that answered", x.look(2), 4);
        x.node(1, 'm', 0, 0);
        expect.same("whole", x.check(), 0);
        expect.same("whole, again", x.check(), 0);
    }

    private static void lastDefinition() {
        main("as it has to be", false, Put.MAIN, 3, "m3", "m", 0);
        main("another name", false, Put.MAIN + 1, 3, "m3", "m", 4);
        main("another type", false, Put.MAIN, 1, "m3", "2", 4);
        main("no parameter", false, Put.MAIN, 3, "", "17 19 2", 4);
        main("two parameters", false, Put.MAIN, 3, "m3 n3", "m", 4);
        main("a parameter of type 2", false, Put.MAIN, 3, "m2", "17 19 2", 4);
        main("a chg", true, Put.MAIN, 1, "m3", "19 2", 4);
        main("ahead of any other fault", false, Put.MAIN, 3, "m2", "z", 4);
        LevelTypes x = new LevelTypes();
        Put.main(x);
        Put.fun(x, 'f', 0, "", "0");
        expect.same("not the last", x.check(), 4);
    }

    private static void main(String what, boolean changes, long name, int type, String parameters, String text, int due) {
        LevelTypes x = new LevelTypes();
        Put.definition(x, changes, name, type, parameters, text);
        expect.same(what, x.check(), due);
        expect.same(what + ", look(2)", x.look(2), due);
        expect.none(what + ", look(3)", x.look(3));
    }

    /** A definition with a variable of each type (a 0, b 1, c 2, d 3), others to call, and the last one. */
    private static LevelTypes around(boolean changes, int type, String text) {
        LevelTypes x = new LevelTypes();
        Put.definition(x, changes, 'f', type, "a0 b1 c2 d3", text);
        Put.fun(x, 'k', 2, "a0 b1 c2 d3", "c");
        Put.chg(x, 'j', 1, "d3 a0", "19 2");
        Put.fun(x, 'n', 1, "", "2");
        Put.chg(x, 'o', 0, "", "19 0");
        Put.main(x);
        return x;
    }

    private static void due(boolean changes, int type, String text, int fault, int node) {
        LevelTypes x = around(changes, type, text);
        String what = (changes ? "chg of " : "fun of ") + type + ": " + text;
        expect.same(what, x.check(), fault);
        expect.same(what + ", look(2)", x.look(2), fault);
        expect.same(what + ", look(3)", x.look(3), node);
    }

    private static void fun(int type, String text, int fault, int node) {
        due(false, type, text, fault, node);
    }

    private static void chg(int type, String text, int fault, int node) {
        due(true, type, text, fault, node);
    }

    /** The text has a hole, _, at the given node, where only the given types can stand. */
    private static void hole(boolean changes, int type, String text, int node, String types) {
        for (int t = 0; t < 4; t++) {
            boolean right = types.contains(Integer.toString(t));
            due(changes, type, text.replace("_", OF_TYPE[t]), right ? 0 : 6, right ? -1 : node);
        }
    }

    private static void typesOfExpressions() {
        fun(0, "0", 0, -1);
        fun(1, "2", 0, -1);
        for (int kind = 3; kind <= 9; kind++) {
            hole(false, 0, kind + " _ a", 1, "0");
            hole(false, 0, kind + " a _", 2, "0");
        }
        for (int t = 0; t < 4; t++) {
            String of = OF_TYPE[t];
            hole(false, t, "10 _ " + of + " " + of, 1, "0");
            hole(false, t, "10 a " + of + " _", 3, Integer.toString(t));
            hole(false, t, "12:x:y _ " + of + " " + of, 1, "1");
            hole(false, t, "12:x:y b " + of + " _", 3, Integer.toString(t));
            hole(false, t, "11:x _ " + of, 1, "0123");
            fun(t, "11:x " + of + " x", 0, -1);
        }
        fun(0, "12:x:y b a x", 0, -1);
        fun(3, "12:x:y b d y", 0, -1);
        hole(false, 1, "13 _ d", 1, "0");
        hole(false, 1, "13 a _", 2, "3");
        for (int kind = 14; kind <= 15; kind++) {
            String call = kind + ":k/4 ";
            hole(false, 2, call + "_ b c d", 1, "0");
            hole(false, 2, call + "a _ c d", 2, "1");
            hole(false, 2, call + "a b _ d", 3, "2");
            hole(false, 2, call + "a b c _", 4, "3");
            fun(1, kind + ":n/0", 0, -1);
        }
        fun(2, "16 19 a", 0, -1);
        fun(2, "16 19 b", 6, 1);
        fun(3, "17 19 b", 0, -1);
        fun(3, "17 19 a", 6, 1);
        fun(2, "16 23:o/0", 0, -1);
        fun(2, "16 23:j/2 d a", 6, 1);
        fun(3, "17 23:j/2 d a", 0, -1);
        fun(3, "17 23:o/0", 6, 1);
    }

    private static void typesOfChanges() {
        hole(true, 0, "18:x _ 19 a", 1, "23");
        chg(0, "18:x c 19 x", 0, -1);
        chg(1, "18:x d 19 x", 0, -1);
        chg(0, "19 a", 0, -1);
        chg(1, "19 b", 0, -1);
        chg(0, "19 c", 6, 1);
        chg(0, "19 d", 6, 1);
        hole(true, 0, "20 _ 19 a 19 a", 1, "0");
        chg(1, "20 a 19 b 19 b", 0, -1);
        chg(0, "20 a 19 a 19 b", 6, 4);
        chg(1, "20 a 19 a 19 b", 6, 4);
        hole(true, 0, "21:x _ 19 a", 1, "0123");
        chg(1, "21:x b 19 x", 0, -1);
        hole(true, 0, "22:x:y _ 19 a 19 a", 1, "1");
        chg(1, "22:x:y b 19 a 19 b", 6, 4);
        chg(0, "22:x:y b 19 a 19 x", 0, -1);
        chg(1, "22:x:y b 19 2 18:z y 19 z", 0, -1);
        hole(true, 1, "23:j/2 _ a", 1, "3");
        hole(true, 1, "23:j/2 d _", 2, "0");
        chg(0, "23:o/0", 0, -1);
    }

    private static void definitionsTypes() {
        for (int t = 0; t < 4; t++) {
            for (int of = 0; of < 4; of++) {
                fun(t, OF_TYPE[of], t == of ? 0 : 6, t == of ? -1 : 0);
            }
        }
        chg(0, "19 b", 6, 0);
        chg(1, "19 a", 6, 0);
        chg(0, "23:j/2 d a", 6, 0);
        fun(1, "11:x a 10 a x x", 6, 0);
        // Of two that have to be of one type the last is wrong, whichever the definition asks for.
        fun(1, "10 a a b", 6, 3);
    }

    private static void variablesThatAreNotThere() {
        fun(0, "z", 5, 0);
        fun(0, "11:x x a", 5, 1);
        fun(0, "3 11:x a x x", 5, 4);
        fun(0, "12:x:y x a a", 5, 1);
        fun(0, "12:x:y b x a", 5, 2);
        fun(3, "12:x:y b y y", 5, 2);
        fun(3, "12:x:y y d d", 5, 1);
        chg(0, "18:x x 19 a", 5, 1);
        chg(0, "21:x x 19 a", 5, 1);
        chg(0, "22:x:y b 19 x 19 a", 5, 3);
        chg(0, "22:x:y b 19 a 19 x", 0, -1);
        // A function's name is no variable, nor is another definition's parameter.
        fun(0, "n", 5, 0);
        LevelTypes x = new LevelTypes();
        Put.fun(x, 'f', 0, "a0", "a");
        Put.fun(x, 'g', 0, "", "a");
        Put.main(x);
        expect.same("another definition's parameter", x.check(), 5);
        expect.same("look(3)", x.look(3), 1);
    }

    private static void functionsThatAreNotThere() {
        for (int kind = 14; kind <= 15; kind++) {
            fun(1, kind + ":z/0", 5, 0);
            fun(0, kind + ":a/0", 5, 0);
            fun(0, kind + ":o/0", 5, 0);
            fun(1, kind + ":n/1 a", 5, 0);
            fun(2, kind + ":k/3 a b c", 5, 0);
            fun(2, kind + ":k/5 a b c d d", 5, 0);
            fun(2, kind + ":f/4 a b c d", 0, -1);
        }
        chg(1, "23:n/0", 5, 0);
        chg(1, "23:z/0", 5, 0);
        chg(1, "23:j/1 d", 5, 0);
        chg(1, "23:j/3 d a a", 5, 0);
        chg(1, "23:f/4 a b c d", 0, -1);
    }

    private static void firstFaultCounts() {
        // Coming to a node is ahead of its parts; its own type is behind them.
        fun(0, "14:z/1 z", 5, 0);
        fun(0, "3 2 z", 6, 1);
        fun(0, "3 z 2", 5, 1);
        fun(0, "3 13 a z a", 5, 3);
        fun(0, "3 13 a a a", 6, 3);
        fun(0, "3 13 a d z", 6, 1);
        fun(0, "10 2 z z", 6, 1);
        fun(0, "14:k/4 a a z z", 6, 2);
        fun(1, "3 a 14:k/4 a b c c", 6, 6);
        fun(1, "3 a 14:k/4 a b c d", 6, 2);
        LevelTypes x = new LevelTypes();
        Put.fun(x, 'f', 0, "", "2");
        Put.fun(x, 'g', 0, "", "z");
        Put.main(x);
        expect.same("one definition behind the other", x.check(), 6);
        expect.same("look(3)", x.look(3), 0);
    }

    private static void whatIsSaidStays() {
        LevelTypes x = new LevelTypes();
        Put.fun(x, 'f', 0, "", "3 0 z");
        Put.main(x);
        expect.same("check()", x.check(), 5);
        x.define(false, 'g', 0);
        expect.none("check() when not whole", x.check());
        expect.same("look(2)", x.look(2), 5);
        expect.same("look(3)", x.look(3), 2);
        x.node(0, 0, 0, 0);
        expect.same("look(2)", x.look(2), 5);
        expect.same("check()", x.check(), 4);
        expect.same("look(2)", x.look(2), 4);
        expect.none("look(3)", x.look(3));
    }
}
