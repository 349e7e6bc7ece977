/** The boundary cases of "Terms", sentence by sentence, but for the faults (CheckBoundaryTest). */
public final class TermsBoundaryTest {
    private static final Expect expect = new Expect();
    private static final Texts texts = new Texts(expect);

    public static void main(String[] args) {
        Sentences sentences = new Sentences(expect);
        sentences.hold("A TYPE is 0 int, 1 list, 2 imod, 3 lmod.", TermsBoundaryTest::types);
        sentences.hold("A NAME is a long above 0.", TermsBoundaryTest::names);
        sentences.hold("A DEFINITION is a fun or a chg, has a NAME, up to 8 parameters", TermsBoundaryTest::parameters);
        sentences.hold("of a chg, what it writes: 0 or 1", TermsBoundaryTest::typesOfChg);
        sentences.hold("and an expression: E for a fun, C for a chg", TermsBoundaryTest::sortOfExpression);
        sentences.hold("E: 0 a number; 1 X; .. 16 imod, 17 lmod, of a C.", () -> parts(0, Forms.FIRST_CHANGE));
        sentences.hold("C: 18 read X, of an E and a C; .. 23 jump F", () -> parts(Forms.FIRST_CHANGE, Forms.KINDS));
        sentences.hold("of any number of E", TermsBoundaryTest::anyNumber);
        sentences.hold("NODES come one behind the other, each ahead of its parts, and these in their order, each with "
            + "all that is in it", TermsBoundaryTest::orderOfNodes);
        sentences.hold("their numbers are 0, 1, .. over all DEFINITIONS", TermsBoundaryTest::numbersOfNodes);
        sentences.hold("VARIABLES are there: the parameters, in all of a DEFINITION's expression",
            TermsBoundaryTest::parametersAreThere);
        sentences.hold("X of 11 and 21, X and Y of 12 and 22, X of 18 in the last part",
            TermsBoundaryTest::boundInTheLastPart);
        sentences.hold("An inner one hides an outer one of its NAME.", TermsBoundaryTest::hiding);
        sentences.hold("a number is 0, X what its variable is, nil 1", TermsBoundaryTest::typesOfLeaves);
        sentences.hold("3 .. 9: both parts 0, and so it is", TermsBoundaryTest::typesOfOperations);
        sentences.hold("if: 0, then two of one TYPE, which it is", TermsBoundaryTest::typesOfIf);
        sentences.hold("let: any; X is of that TYPE; it is what its last part is", TermsBoundaryTest::typesOfLet);
        sentences.hold("case: 1, then two of one TYPE, which it is; X is 0, Y 3", TermsBoundaryTest::typesOfCase);
        sentences.hold("cons: 0 and 3; it is 1", TermsBoundaryTest::typesOfCons);
        sentences.hold("F: 14 and 15 a fun, 23 a chg, with as many parameters as there are parts, which are of their "
            + "TYPES; it is what F is", TermsBoundaryTest::typesOfCalls);
        sentences.hold("imod: of a C that is 0; it is 2. lmod: of one that is 1; it is 3", TermsBoundaryTest::typesOfMods);
        sentences.hold("read: 2, and X is 0, or 3, and X is 1; it is what its last part is", TermsBoundaryTest::typesOfRead);
        sentences.hold("write: 0 or 1, and so it is", TermsBoundaryTest::typesOfWrite);
        sentences.finish();
    }

    private static void types() {
        for (int type = 0; type <= 3; type++) {
            type(type, true);
        }
        type(-1, false);
        type(4, false);
        for (int type : Forms.FAR_INTS) {
            type(type, false);
        }
    }

    private static void type(int type, boolean right) {
        expect.same("fun of type " + type, new LevelTypes().define(false, 1, type), right ? 0 : -1);
        expect.same("fun's parameter of type " + type, Forms.started(false).parameter(1, type), right ? 1 : -1);
        expect.same("chg's parameter of type " + type, Forms.started(true).parameter(1, type), right ? 1 : -1);
    }

    private static void names() {
        for (long name : Forms.NAMES) {
            name(name, true);
        }
        for (long name : Forms.NO_NAMES) {
            name(name, false);
        }
    }

    private static void name(long name, boolean right) {
        expect.same("fun " + name, new LevelTypes().define(false, name, 0), right ? 0 : -1);
        expect.same("chg " + name, new LevelTypes().define(true, name, 0), right ? 0 : -1);
        expect.same("parameter " + name, Forms.started(false).parameter(name, 0), right ? 1 : -1);
        for (int kind = 0; kind < Forms.KINDS; kind++) {
            int parts = Forms.sorts(kind).length();
            if (Forms.hasFirst(kind)) {
                LevelTypes x = Forms.startedFor(kind);
                expect.same("kind " + kind + " of " + name, x.node(kind, name, Forms.second(kind), parts), right ? 0 : -1);
            }
            if (Forms.hasSecond(kind)) {
                LevelTypes x = Forms.startedFor(kind);
                expect.same("kind " + kind + " with Y " + name, x.node(kind, 5, name, parts), right ? 0 : -1);
            }
        }
    }

    private static void parameters() {
        for (int count = 0; count <= 8; count++) {
            LevelTypes x = new LevelTypes();
            x.define(count % 2 == 0, 'f', 0);
            for (int i = 1; i <= count; i++) {
                expect.same("parameter " + i, x.parameter(i, 0), i);
            }
            if (count == 8) {
                expect.none("a ninth parameter", x.parameter(9, 0));
            }
            Put.expression(x, count % 2 == 0 ? "19 0" : "0");
            Put.main(x);
            expect.same("check() with " + count + " parameters", x.check(), 0);
            expect.same("look(5) with " + count + " parameters", x.look(5), Math.max(count, 1));
        }
    }

    private static void typesOfChg() {
        for (int type = -1; type <= 4; type++) {
            expect.same("chg of type " + type, new LevelTypes().define(true, 1, type), type == 0 || type == 1 ? 0 : -1);
        }
        for (int type : Forms.FAR_INTS) {
            expect.none("chg of type " + type, new LevelTypes().define(true, 1, type));
        }
        // Only its value: its parameters are of any type.
        LevelTypes x = Forms.started(true);
        expect.same("chg's parameter of type 2", x.parameter(1, 2), 1);
        expect.same("chg's parameter of type 3", x.parameter(2, 3), 2);
    }

    private static void sortOfExpression() {
        for (int kind = 0; kind < Forms.KINDS; kind++) {
            boolean change = Forms.isChange(kind);
            expect.same("kind " + kind + " as a fun's", Forms.put(Forms.started(false), kind), change ? -1 : 0);
            expect.same("kind " + kind + " as a chg's", Forms.put(Forms.started(true), kind), change ? 0 : -1);
        }
    }

    /** One part fewer or more is refused; with the right number it is whole behind the last part, and not before. */
    private static void parts(int from, int to) {
        for (int kind = from; kind < to; kind++) {
            String sorts = Forms.sorts(kind);
            String what = "kind " + kind;
            LevelTypes x = Forms.startedFor(kind);
            if (!Forms.hasAnyNumber(kind)) {
                expect.none(what + ", a part fewer", x.node(kind, Forms.first(kind), Forms.second(kind), sorts.length() - 1));
                expect.none(what + ", a part more", x.node(kind, Forms.first(kind), Forms.second(kind), sorts.length() + 1));
            }
            expect.same(what, Forms.put(x, kind), 0);
            for (int place = 0; place < sorts.length(); place++) {
                char sort = sorts.charAt(place);
                expect.same(what + " ahead of part " + place + ", look(4)", x.look(4), 0);
                expect.none(what + ", the other sort as part " + place, Forms.leaf(x, sort == 'C' ? 'E' : 'C'));
                expect.same(what + ", part " + place, Forms.leaf(x, sort), place + 1);
            }
            expect.same(what + " behind all its parts, look(4)", x.look(4), 1);
        }
    }

    private static void anyNumber() {
        for (int kind : new int[] {14, 15, 23}) {
            for (int parts : new int[] {0, 1, 2, 8, 9, 100}) {
                LevelTypes x = Forms.startedFor(kind);
                String what = "kind " + kind + " of " + parts;
                expect.same(what, x.node(kind, 5, 0, parts), 0);
                for (int i = 1; i <= parts; i++) {
                    expect.same(what + " ahead of part " + i + ", look(4)", x.look(4), 0);
                    expect.none(what + ", a C as part " + i, x.node(23, 5, 0, 0));
                    expect.same(what + ", part " + i, x.node(0, 0, 0, 0), i);
                }
                expect.same(what + " behind all its parts, look(4)", x.look(4), 1);
                expect.same(what + ", of(0, 1)", x.of(0, 1), parts);
            }
            expect.same("very many", Forms.startedFor(kind).node(kind, 5, 0, Integer.MAX_VALUE), 0);
            expect.none("less than none", Forms.startedFor(kind).node(kind, 5, 0, -1));
            expect.none("the least", Forms.startedFor(kind).node(kind, 5, 0, Integer.MIN_VALUE));
        }
    }

    private static void orderOfNodes() {
        LevelTypes x = new LevelTypes();
        x.define(false, 'f', 0);
        Put.expression(x, "10 3 0 4 0 0 14:q/2 14:q/0 0 16 20 0 19 0 18:x 0 19 0");
        int[] in = {-1, 0, 1, 1, 3, 3, 0, 6, 6, 0, 9, 10, 10, 12, 10, 14, 14, 16};
        for (int k = 0; k < in.length; k++) {
            expect.same("of(" + k + ", 2)", x.of(k, 2), in[k]);
        }
        expect.same("look(4)", x.look(4), 1);
    }

    private static void numbersOfNodes() {
        LevelTypes x = new LevelTypes();
        int due = 0;
        for (int d = 0; d < 20; d++) {
            x.define(d % 2 == 1, 1 + d, 0);
            if (d % 2 == 1) {
                expect.same("write of definition " + d, x.node(19, 0, 0, 1), due++);
            }
            expect.same("number of definition " + d, x.node(0, 0, 0, 0), due++);
            expect.none("one too many of definition " + d, x.node(0, 0, 0, 0));
        }
        expect.same("look(1)", x.look(1), 30);
    }

    private static void parametersAreThere() {
        texts.fun(0, "a", 0, -1);
        texts.fun(0, "3 a 4 a 5 a a", 0, -1);
        texts.fun(0, "11:x a a", 0, -1);
        texts.fun(0, "12:x:y b a a", 0, -1);
        texts.chg(0, "18:x c 20 a 19 a 21:y a 22:z:v b 19 a 19 a", 0, -1);
        texts.fun(2, "16 18:x d 19 a", 0, -1);
        LevelTypes x = new LevelTypes();
        Put.fun(x, 'f', 0, "v0", "v");
        Put.fun(x, 'g', 0, "w0", "3 w v");
        Put.main(x);
        expect.same("the parameter of the definition before", x.check(), 5);
        expect.same("its node", x.look(3), 3);
        longNames();
    }

    /** A variable is looked for by its whole name, not by half of it. */
    private static void longNames() {
        LevelTypes x = new LevelTypes();
        x.define(false, 'f', 0);
        x.parameter(9L + (1L << 32), 3);
        x.parameter(9L + (1L << 40), 0);
        x.parameter(Long.MAX_VALUE, 0);
        x.node(3, 0, 0, 2);
        x.node(1, 9L + (1L << 40), 0, 0);
        x.node(1, Long.MAX_VALUE, 0, 0);
        Put.main(x);
        expect.same("check()", x.check(), 0);
        expect.same("binder(1)", x.binder(1), -3);
        expect.same("binder(2)", x.binder(2), -4);
        LevelTypes y = new LevelTypes();
        y.define(false, 'f', 0);
        y.parameter(9L + (1L << 32), 0);
        y.node(1, 9, 0, 0);
        Put.main(y);
        expect.same("another name with the same lower half", y.check(), 5);
    }

    private static void boundInTheLastPart() {
        texts.fun(0, "11:x 0 x", 0, -1);
        texts.fun(0, "11:x x 0", 5, 1);
        texts.fun(0, "3 11:x 0 x x", 5, 4);
        texts.fun(0, "12:x:y b a x", 0, -1);
        texts.fun(3, "12:x:y b d y", 0, -1);
        texts.fun(0, "12:x:y b x a", 5, 2);
        texts.fun(3, "12:x:y b y d", 5, 2);
        texts.fun(0, "12:x:y x a a", 5, 1);
        texts.fun(0, "12:x:y y a a", 5, 1);
        texts.fun(0, "3 12:x:y b a x x", 5, 5);
        texts.fun(1, "13 12:x:y b a x y", 5, 5);
        texts.chg(0, "21:x 0 19 x", 0, -1);
        texts.chg(0, "21:x x 19 0", 5, 1);
        texts.chg(0, "20 0 21:x 0 19 x 19 x", 5, 7);
        texts.chg(0, "22:x:y b 19 a 19 x", 0, -1);
        texts.chg(1, "22:x:y b 19 2 18:z y 19 z", 0, -1);
        texts.chg(0, "22:x:y b 19 x 19 a", 5, 3);
        texts.chg(0, "22:x:y b 18:z y 19 a 19 a", 5, 3);
        texts.chg(0, "22:x:y x 19 a 19 a", 5, 1);
        texts.chg(0, "22:x:y y 19 a 19 a", 5, 1);
        texts.chg(0, "20 0 22:x:y b 19 a 19 x 19 x", 5, 9);
        texts.chg(0, "18:x c 19 x", 0, -1);
        texts.chg(0, "18:x x 19 0", 5, 1);
        texts.chg(0, "20 0 18:x c 19 x 19 x", 5, 7);
    }

    private static void hiding() {
        binders("11:a b 12:a:z a 0 a", "a0 b1", 0, -1, -3, -1, 0, -1, 2);
        binders("3 11:a 0 a a", "a0", 0, -1, -1, -1, 1, -2);
        binders("11:a 3 a a a", "a0", 0, -1, -1, -2, -2, 0);
        binders("11:x 0 11:x 3 x x x", "", 0, -1, -1, -1, -1, 0, 0, 2);
        binders("12:a:b b 0 11:b 0 3 a b", "a0 b1", 0, -1, -3, -1, -1, -1, -1, 0, 3);
        binders("12:z:a b 17 19 2 a", "a0 b1", 3, -1, -3, -1, -1, -1, 0);
        binders("16 18:c c 21:c c 19 c", "c2", 2, -1, -1, -2, -1, 1, -1, 3);
        binders("16 22:a:c b 18:c c 19 c 18:a c 22:a:c a 19 0 19 a", "a3 b1 c2", 2,
            -1, -1, -3, -1, -4, -1, 3, -1, 1, -1, 7, -1, -1, -1, 9);
        for (int bits = 8; bits < 63; bits++) {
            likeNames(9, 9 + (1L << bits));
            likeNames(9 + (1L << bits), 9);
            likeNames(1L << bits, 1L << (bits - 1));
        }
    }

    /** Names are told apart by all their bits: an inner X or Y with a like name hides nothing. */
    private static void likeNames(long name, long inner) {
        LevelTypes x = new LevelTypes();
        x.define(false, 'f', 0);
        x.node(11, name, 0, 2);
        x.node(0, 0, 0, 0);
        x.node(11, inner, 0, 2);
        x.node(0, 0, 0, 0);
        x.node(12, 5, inner, 3);
        x.node(2, 0, 0, 0);
        x.node(1, inner, 0, 0);
        x.node(1, name, 0, 0);
        x.define(true, 'g', 0);
        x.parameter(name, 2);
        x.node(18, inner, 0, 2);
        x.node(1, name, 0, 0);
        x.node(21, inner, 0, 2);
        x.node(1, name, 0, 0);
        x.node(22, inner, 5, 3);
        x.node(2, 0, 0, 0);
        x.node(19, 0, 0, 1);
        x.node(0, 0, 0, 0);
        x.node(18, 6, 0, 2);
        x.node(1, name, 0, 0);
        x.node(19, 0, 0, 1);
        x.node(1, inner, 0, 0);
        Put.main(x);
        String what = name + " and " + inner;
        expect.same(what + ": check()", x.check(), 0);
        int[] due = {-1, -1, -1, -1, -1, -1, 2, 0, -1, -2, -1, -2, -1, -1, -1, -1, -1, -2, -1, 12};
        for (int k = 0; k < due.length; k++) {
            expect.same(what + ": binder(" + k + ")", x.binder(k), due[k]);
        }
    }

    private static void binders(String text, String parameters, int type, int... due) {
        LevelTypes x = new LevelTypes();
        Put.fun(x, 'f', type, parameters, text);
        Put.main(x);
        expect.same(text + ": check()", x.check(), 0);
        for (int k = 0; k < due.length; k++) {
            expect.same(text + ": binder(" + k + ")", x.binder(k), due[k]);
        }
    }

    private static void typesOfLeaves() {
        texts.type("0", 0);
        texts.type("a", 0);
        texts.type("b", 1);
        texts.type("c", 2);
        texts.type("d", 3);
        texts.type("2", 1);
    }

    private static void typesOfOperations() {
        for (int kind = 3; kind <= 9; kind++) {
            texts.type(kind + " a a", 0);
            texts.hole(false, 0, kind + " _ a", 1, "0");
            texts.hole(false, 0, kind + " a _", 2, "0");
        }
    }

    private static void typesOfIf() {
        for (int type = 0; type < 4; type++) {
            String of = Texts.VARIABLES[type];
            texts.type("10 a " + of + " " + of, type);
            texts.hole(false, type, "10 _ " + of + " " + of, 1, "0");
            texts.hole(false, type, "10 a " + of + " _", 3, "" + type);
        }
        for (int type = 0; type < 2; type++) {
            String of = Texts.VARIABLES[type];
            texts.chg(type, "20 a 19 " + of + " 19 " + of, 0, -1);
            texts.chg(1 - type, "20 a 19 " + of + " 19 " + of, 6, 0);
            texts.hole(true, type, "20 _ 19 " + of + " 19 " + of, 1, "0");
            texts.chg(type, "20 a 19 " + of + " 19 " + Texts.VARIABLES[1 - type], 6, 4);
        }
    }

    private static void typesOfLet() {
        for (int type = 0; type < 4; type++) {
            String of = Texts.VARIABLES[type];
            texts.type("11:x " + of + " x", type);
            texts.type("11:x a " + of, type);
            texts.hole(false, type, "11:x _ " + of, 1, "0123");
            texts.hole(true, 0, "21:x _ 19 a", 1, "0123");
            texts.fun(type, "11:x a 11:y " + of + " y", 0, -1);
            texts.chg(0, "21:x " + of + " 19 11:y x a", 0, -1);
            texts.chg(1, "21:x " + of + " 19 14:k/4 x x x x", 6, type == 0 ? 5 : 4);
        }
        texts.chg(0, "21:x a 19 x", 0, -1);
        texts.chg(1, "21:x b 19 x", 0, -1);
        texts.chg(1, "21:x a 19 x", 6, 0);
    }

    private static void typesOfCase() {
        for (int type = 0; type < 4; type++) {
            String of = Texts.VARIABLES[type];
            texts.type("12:x:y b " + of + " " + of, type);
            texts.hole(false, type, "12:x:y _ " + of + " " + of, 1, "1");
            texts.hole(false, type, "12:x:y b " + of + " _", 3, "" + type);
            texts.fun(type, "12:x:y b " + of + " x", type == 0 ? 0 : 6, type == 0 ? -1 : 3);
            texts.fun(type, "12:x:y b " + of + " y", type == 3 ? 0 : 6, type == 3 ? -1 : 3);
        }
        for (int type = 0; type < 2; type++) {
            String of = Texts.VARIABLES[type];
            texts.hole(true, type, "22:x:y _ 19 " + of + " 19 " + of, 1, "1");
            texts.chg(1 - type, "22:x:y b 19 " + of + " 19 " + of, 6, 0);
            texts.chg(type, "22:x:y b 19 " + of + " 19 " + Texts.VARIABLES[1 - type], 6, 4);
        }
        texts.chg(0, "22:x:y b 19 a 19 x", 0, -1);
        texts.chg(0, "22:x:y b 19 a 19 y", 6, 5);
        texts.chg(1, "22:x:y b 19 b 18:z y 19 z", 0, -1);
        texts.chg(0, "22:x:y b 19 a 18:z x 19 a", 6, 5);
    }

    private static void typesOfCons() {
        texts.type("13 a d", 1);
        texts.hole(false, 1, "13 _ d", 1, "0");
        texts.hole(false, 1, "13 a _", 2, "3");
    }

    private static void typesOfCalls() {
        for (int kind = 14; kind <= 15; kind++) {
            texts.type(kind + ":k/4 a b c d", 2);
            texts.hole(false, 2, kind + ":k/4 _ b c d", 1, "0");
            texts.hole(false, 2, kind + ":k/4 a _ c d", 2, "1");
            texts.hole(false, 2, kind + ":k/4 a b _ d", 3, "2");
            texts.hole(false, 2, kind + ":k/4 a b c _", 4, "3");
            texts.type(kind + ":n/0", 1);
            texts.fun(1, kind + ":o/0", 5, 0);
            texts.fun(1, kind + ":n/1 a", 5, 0);
            texts.fun(2, kind + ":k/3 a b c", 5, 0);
            texts.fun(2, kind + ":k/5 a b c d d", 5, 0);
        }
        texts.hole(true, 1, "23:j/2 _ a", 1, "3");
        texts.hole(true, 1, "23:j/2 d _", 2, "0");
        texts.chg(0, "23:j/2 d a", 6, 0);
        texts.chg(0, "23:o/0", 0, -1);
        texts.chg(0, "23:n/0", 5, 0);
        texts.chg(0, "23:o/1 a", 5, 0);
        texts.chg(1, "23:j/1 d", 5, 0);
        texts.chg(1, "23:j/3 d a a", 5, 0);
    }

    private static void typesOfMods() {
        texts.type("16 19 a", 2);
        texts.type("17 19 b", 3);
        texts.fun(2, "16 19 b", 6, 1);
        texts.fun(3, "17 19 a", 6, 1);
        texts.fun(2, "16 23:o/0", 0, -1);
        texts.fun(2, "16 23:j/2 d a", 6, 1);
        texts.fun(3, "17 23:o/0", 6, 1);
        texts.fun(3, "17 23:j/2 d a", 0, -1);
        texts.fun(2, "16 18:x d 19 x", 6, 1);
        texts.fun(3, "17 18:x d 19 x", 0, -1);
        texts.fun(3, "17 20 a 19 a 19 a", 6, 1);
    }

    private static void typesOfRead() {
        texts.hole(true, 0, "18:x _ 19 a", 1, "23");
        texts.hole(true, 1, "18:x _ 19 b", 1, "23");
        texts.chg(0, "18:x c 19 x", 0, -1);
        texts.chg(1, "18:x c 19 x", 6, 0);
        texts.chg(0, "18:x d 19 x", 6, 0);
        texts.chg(1, "18:x d 19 x", 0, -1);
        texts.chg(1, "18:x c 19 b", 0, -1);
        texts.chg(0, "18:x d 19 a", 0, -1);
    }

    private static void typesOfWrite() {
        texts.chg(0, "19 a", 0, -1);
        texts.chg(1, "19 b", 0, -1);
        texts.chg(0, "19 b", 6, 0);
        texts.chg(1, "19 a", 6, 0);
        for (int type = 0; type < 2; type++) {
            texts.chg(type, "19 c", 6, 1);
            texts.chg(type, "19 d", 6, 1);
        }
    }
}
