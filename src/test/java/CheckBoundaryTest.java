/** The boundary cases of promise 6 and of the faults, sentence by sentence. */
public final class CheckBoundaryTest {
    private static final Expect expect = new Expect();
    private static final Texts texts = new Texts(expect);

    public static void main(String[] args) {
        Sentences sentences = new Sentences(expect);
        sentences.hold("check: All is looked at: 0, or the fault", CheckBoundaryTest::answers);
        sentences.hold("check: NONE if the last DEFINITION is not whole", CheckBoundaryTest::notWhole);
        sentences.hold("4: the last DEFINITION is not ..", CheckBoundaryTest::onlyTheLast);
        sentences.hold("4: .. a fun", CheckBoundaryTest::lastIsNoFun);
        sentences.hold("4: .. with the NAME 427310", CheckBoundaryTest::lastHasAnotherName);
        sentences.hold("4: .. one parameter", CheckBoundaryTest::lastHasOtherParameters);
        sentences.hold("4: .. of TYPE 3", CheckBoundaryTest::lastHasAnotherParameterType);
        sentences.hold("4: .. and the TYPE 3", CheckBoundaryTest::lastHasAnotherType);
        sentences.hold("4: .. (or there is none)", CheckBoundaryTest::noDefinition);
        sentences.hold("Then ..", CheckBoundaryTest::fourIsFirst);
        sentences.hold("one DEFINITION behind the other", CheckBoundaryTest::orderOfDefinitions);
        sentences.hold("and NODE by NODE", CheckBoundaryTest::orderOfNodes);
        sentences.hold("5, when a NODE is come to, ahead of its parts", CheckBoundaryTest::fiveAheadOfParts);
        sentences.hold("5: an X that is not there", CheckBoundaryTest::noVariable);
        sentences.hold("5: an F that is no fun (14, 15) or chg (23)", CheckBoundaryTest::noFunction);
        sentences.hold("5: or has another number of parameters than the NODE has parts", CheckBoundaryTest::otherNumber);
        sentences.hold("6, when all of a NODE has been looked at", CheckBoundaryTest::sixBehindParts);
        sentences.hold("6: it is of a TYPE that it can not have where it stands", CheckBoundaryTest::misfits);
        sentences.hold("6: the last of two that have to be of one TYPE", CheckBoundaryTest::lastOfTwo);
        sentences.hold("6: a DEFINITION's expression", CheckBoundaryTest::definitionsExpression);
        sentences.finish();
    }

    private static void answers() {
        texts.fun(0, "0", 0, -1);
        texts.fun(0, "z", 5, 0);
        texts.fun(0, "2", 6, 0);
        LevelTypes x = Texts.around(false, 0, "3 a a");
        for (int i = 0; i < 3; i++) {
            expect.same("check() once more", x.check(), 0);
        }
        LevelTypes y = Texts.around(false, 0, "3 a b");
        for (int i = 0; i < 3; i++) {
            expect.same("check() with a fault once more", y.check(), 6);
            expect.same("its node once more", y.look(3), 2);
        }
        // All: the last node of the last definition too.
        last("m", 0, -1);
        last("n", 5, 1);
        last("17 19 n", 5, 3);
        last("17 19 0", 6, 2);
        last("2", 6, 1);
    }

    private static void last(String text, int fault, int node) {
        LevelTypes x = new LevelTypes();
        Put.fun(x, 'f', 0, "", "0");
        Put.definition(x, false, Put.MAIN, 3, "m3", text);
        expect.same(text + " as the last: check()", x.check(), fault);
        expect.same(text + " as the last: look(3)", x.look(3), node);
    }

    private static void notWhole() {
        LevelTypes x = new LevelTypes();
        x.define(false, Put.MAIN, 3);
        expect.none("behind define", x.check());
        x.parameter('m', 3);
        expect.none("behind parameter", x.check());
        x.node(11, 'x', 0, 2);
        expect.none("lacking two", x.check());
        x.node(17, 0, 0, 1);
        expect.none("lacking three", x.check());
        Put.expression(x, "19 2");
        expect.none("lacking one", x.check());
        x.node(1, 'm', 0, 0);
        expect.same("whole", x.check(), 0);
        x.define(true, 'f', 0);
        expect.none("the next, behind define", x.check());
        expect.none("the next, once more", x.check());
        x.node(19, 0, 0, 1);
        expect.none("the next, lacking one", x.check());
        x.node(0, 0, 0, 0);
        expect.same("the next, whole", x.check(), 4);
        // A fault that is there already waits for the end as well.
        LevelTypes y = new LevelTypes();
        y.define(false, Put.MAIN, 3);
        y.node(3, 0, 0, 2);
        y.node(1, 'z', 0, 0);
        expect.none("with a fault, lacking one", y.check());
        expect.same("look(2)", y.look(2), 0);
    }

    private static void onlyTheLast() {
        LevelTypes x = new LevelTypes();
        Put.main(x);
        expect.same("it alone", x.check(), 0);
        Put.fun(x, 'f', 3, "m3", "m");
        expect.same("one behind it", x.check(), 4);
        LevelTypes y = new LevelTypes();
        Put.chg(y, 'g', 0, "", "19 0");
        expect.same("not there yet", y.check(), 4);
        Put.main(y);
        expect.same("behind another", y.check(), 0);
    }

    private static void lastIsNoFun() {
        main("a chg of type 1", true, Put.MAIN, 1, "m3", "19 2", 4);
        main("a chg of type 0", true, Put.MAIN, 0, "m3", "19 0", 4);
        main("a fun", false, Put.MAIN, 3, "m3", "m", 0);
    }

    private static void lastHasAnotherName() {
        for (long name : Forms.NAMES) {
            main("the name " + name, false, name, 3, "m3", "m", name == Put.MAIN ? 0 : 4);
        }
        main("one less", false, Put.MAIN - 1, 3, "m3", "m", 4);
        main("one more", false, Put.MAIN + 1, 3, "m3", "m", 4);
        main("the same lower half", false, Put.MAIN + (1L << 32), 3, "m3", "m", 4);
        main("the same lowest bits", false, Put.MAIN & 0xffff, 3, "m3", "m", 4);
    }

    private static void lastHasOtherParameters() {
        main("none", false, Put.MAIN, 3, "", "17 19 2", 4);
        main("one", false, Put.MAIN, 3, "m3", "17 19 2", 0);
        main("two", false, Put.MAIN, 3, "m3 n3", "17 19 2", 4);
        main("eight", false, Put.MAIN, 3, "a3 b3 c3 d3 e3 f3 g3 h3", "17 19 2", 4);
        // Of any name.
        main("another one", false, Put.MAIN, 3, "q3", "q", 0);
    }

    private static void lastHasAnotherParameterType() {
        for (int type = 0; type < 4; type++) {
            main("of type " + type, false, Put.MAIN, 3, "m" + type, "17 19 2", type == 3 ? 0 : 4);
        }
        main("the first of two is not", false, Put.MAIN, 3, "m2 n3", "n", 4);
    }

    private static void lastHasAnotherType() {
        String[] ofType = {"0", "2", "16 19 0", "m"};
        for (int type = 0; type < 4; type++) {
            main("type " + type, false, Put.MAIN, type, "m3", ofType[type], type == 3 ? 0 : 4);
        }
    }

    private static void noDefinition() {
        LevelTypes x = new LevelTypes();
        expect.same("new: check()", x.check(), 4);
        expect.same("look(2)", x.look(2), 4);
        expect.none("look(3)", x.look(3));
        Put.main(x);
        expect.same("check()", x.check(), 0);
        x.clear();
        expect.same("cleared: look(2)", x.look(2), 0);
        expect.same("cleared: check()", x.check(), 4);
        x.clear();
        x.define(false, 0, 3);
        expect.same("behind a refused define: check()", x.check(), 4);
    }

    private static void main(String what, boolean changes, long name, int type, String parameters, String text, int due) {
        LevelTypes x = new LevelTypes();
        Put.fun(x, 'f', 0, "", "0");
        Put.definition(x, changes, name, type, parameters, text);
        expect.same(what + ": check()", x.check(), due);
        expect.same(what + ": look(2)", x.look(2), due);
        expect.none(what + ": look(3)", x.look(3));
    }

    private static void fourIsFirst() {
        String[] withFault = {"z", "2", "14:q/0", "3 0 2", "11:x x 0"};
        for (String text : withFault) {
            LevelTypes x = new LevelTypes();
            Put.fun(x, 'f', 0, "", text);
            expect.same(text + " alone: check()", x.check(), 4);
            expect.none(text + " alone: look(3)", x.look(3));
            Put.main(x);
            expect.holds(text + " with the last: check()", x.check() > 4);
            Put.fun(x, 'g', 0, "", text);
            expect.same(text + " with one more: check()", x.check(), 4);
            expect.none(text + " with one more: look(3)", x.look(3));
        }
        main("the last one itself", false, Put.MAIN, 3, "m2", "m", 4);
        main("the last one itself", false, Put.MAIN, 3, "m2", "z", 4);
    }

    private static void orderOfDefinitions() {
        two("z", "2", 5, 0);
        two("2", "z", 6, 0);
        two("0", "z", 5, 1);
        two("0", "2", 6, 1);
        two("3 0 0", "3 0 z", 5, 5);
        two("3 0 2", "14:q/0", 6, 2);
        two("11:x 0 2", "14:q/0", 6, 0);
        two("14:q/0", "3 2 2", 5, 0);
        two("0", "0", 0, -1);
    }

    private static void two(String text, String next, int fault, int node) {
        LevelTypes x = new LevelTypes();
        Put.fun(x, 'f', 0, "", text);
        Put.fun(x, 'g', 0, "", next);
        Put.main(x);
        expect.same(text + " | " + next + ": check()", x.check(), fault);
        expect.same(text + " | " + next + ": look(3)", x.look(3), node);
    }

    private static void orderOfNodes() {
        texts.fun(0, "3 z y", 5, 1);
        texts.fun(0, "3 2 z", 6, 1);
        texts.fun(0, "3 z 2", 5, 1);
        texts.fun(0, "3 2 2", 6, 1);
        texts.fun(0, "10 2 z z", 6, 1);
        texts.fun(0, "10 a z 2", 5, 2);
        texts.fun(0, "3 4 a b z", 6, 3);
        texts.fun(0, "3 13 a d z", 6, 1);
        texts.fun(2, "14:k/4 a a z z", 6, 2);
        texts.chg(0, "20 a 19 c 19 z", 6, 3);
        texts.chg(0, "20 a 19 z 19 c", 5, 3);
    }

    private static void fiveAheadOfParts() {
        texts.fun(0, "14:z/1 y", 5, 0);
        texts.fun(0, "14:z/1 3 b b", 5, 0);
        texts.fun(0, "15:z/1 3 b b", 5, 0);
        texts.fun(2, "14:k/1 z", 5, 0);
        texts.fun(2, "14:k/3 z b b", 5, 0);
        texts.chg(0, "23:z/1 y", 5, 0);
        texts.chg(0, "23:j/1 y", 5, 0);
        texts.fun(0, "3 a 14:z/1 y", 5, 2);
        texts.fun(0, "3 b 14:z/1 y", 6, 1);
        // A binder has no X to be looked for, whatever its parts are.
        texts.fun(0, "11:z z 0", 5, 1);
    }

    private static void noVariable() {
        texts.fun(0, "z", 5, 0);
        texts.fun(0, "a", 0, -1);
        texts.fun(0, "f", 5, 0);
        texts.fun(0, "n", 5, 0);
        texts.chg(0, "19 z", 5, 1);
        texts.fun(0, "11:x x x", 5, 1);
        texts.fun(0, "11:x a 11:y y x", 5, 3);
        texts.fun(0, "3 11:x a x 11:y a x", 5, 6);
        // The main one's parameter is no other definition's variable.
        texts.fun(3, "m", 5, 0);
    }

    private static void noFunction() {
        for (int kind = 14; kind <= 15; kind++) {
            texts.fun(1, kind + ":n/0", 0, -1);
            texts.fun(1, kind + ":z/0", 5, 0);
            texts.fun(0, kind + ":o/0", 5, 0);
            texts.fun(0, kind + ":a/0", 5, 0);
            texts.fun(1, kind + ":j/2 d a", 5, 0);
            texts.fun(1, "11:x a " + kind + ":x/0", 5, 2);
        }
        texts.chg(0, "23:o/0", 0, -1);
        texts.chg(0, "23:z/0", 5, 0);
        texts.chg(0, "23:n/0", 5, 0);
        texts.chg(0, "23:a/0", 5, 0);
        texts.chg(0, "23:k/4 a b c d", 5, 0);
        farNames();
        itselfAndTheLast();
    }

    /** A definition is looked for by all the bits of its name. */
    private static void farNames() {
        for (int bits = 8; bits < 63; bits++) {
            farName(9L + (1L << bits));
        }
    }

    private static void farName(long far) {
        for (boolean same : new boolean[] {true, false}) {
            LevelTypes x = new LevelTypes();
            x.define(false, far, 0);
            x.node(0, 0, 0, 0);
            x.define(false, 'g', 0);
            x.node(14, same ? far : 9, 0, 0);
            Put.main(x);
            expect.same("check()", x.check(), same ? 0 : 5);
            expect.same("target(1)", x.target(1), same ? 0 : -1);
        }
    }

    private static void itselfAndTheLast() {
        LevelTypes x = new LevelTypes();
        x.define(false, 'f', 3);
        x.parameter('a', 3);
        x.node(14, Put.MAIN, 0, 1);
        x.node(15, 'f', 0, 1);
        x.node(1, 'a', 0, 0);
        x.define(false, Put.MAIN, 3);
        x.parameter('a', 3);
        x.node(15, Put.MAIN, 0, 1);
        x.node(14, 'f', 0, 1);
        x.node(1, 'a', 0, 0);
        expect.same("check()", x.check(), 0);
        int[] targets = {1, 0, -1, 1, 0, -1};
        for (int k = 0; k < targets.length; k++) {
            expect.same("target(" + k + ")", x.target(k), targets[k]);
        }
    }

    private static void otherNumber() {
        for (int kind : new int[] {14, 15, 23}) {
            for (int has = 0; has <= 8; has++) {
                for (int parts : new int[] {0, has - 1, has, has + 1, 9, 40}) {
                    if (parts >= 0) {
                        call(kind, has, parts);
                    }
                }
            }
        }
    }

    private static void call(int kind, int has, int parts) {
        LevelTypes x = Forms.startedFor(kind);
        for (int i = 1; i <= has; i++) {
            x.parameter(i, 0);
        }
        x.node(kind, 77, 0, parts);
        for (int i = 0; i < parts; i++) {
            x.node(0, 0, 0, 0);
        }
        Put.main(x);
        String what = "kind " + kind + " of " + parts + ", F of " + has;
        expect.same(what + ": check()", x.check(), has == parts ? 0 : 5);
        expect.same(what + ": look(3)", x.look(3), has == parts ? -1 : 0);
    }

    private static void sixBehindParts() {
        texts.fun(0, "3 13 a z a", 5, 3);
        texts.fun(0, "3 13 a a a", 6, 3);
        texts.fun(0, "3 13 a d a", 6, 1);
        texts.fun(0, "3 11:x z b a", 5, 2);
        texts.fun(1, "3 a 14:k/4 a b c c", 6, 6);
        texts.fun(1, "3 a 14:k/4 a b c d", 6, 2);
        texts.fun(1, "3 a a", 6, 0);
        texts.fun(1, "3 a b", 6, 2);
        texts.fun(1, "3 a z", 5, 2);
        texts.fun(3, "16 19 c", 6, 2);
        texts.fun(3, "16 19 b", 6, 1);
        texts.fun(3, "16 19 a", 6, 0);
        // Where a type is handed on, the fault is where it can not be, not where it comes from.
        texts.fun(0, "3 a 11:x a 11:y a 10 a b b", 6, 2);
        texts.chg(0, "18:x c 18:y c 20 a 19 b 19 b", 6, 0);
    }

    private static void misfits() {
        texts.hole(false, 0, "3 _ a", 1, "0");
        texts.hole(false, 0, "9 a _", 2, "0");
        texts.hole(false, 2, "10 _ c c", 1, "0");
        texts.hole(false, 2, "11:x _ c", 1, "0123");
        texts.hole(false, 2, "12:x:y _ c c", 1, "1");
        texts.hole(false, 1, "13 _ d", 1, "0");
        texts.hole(false, 1, "13 a _", 2, "3");
        texts.hole(false, 2, "15:k/4 a _ c d", 2, "1");
        texts.fun(2, "16 19 a", 0, -1);
        texts.fun(2, "16 19 b", 6, 1);
        texts.fun(2, "16 19 c", 6, 2);
        texts.fun(3, "17 19 a", 6, 1);
        texts.fun(3, "17 19 b", 0, -1);
        texts.fun(3, "17 19 d", 6, 2);
        texts.hole(true, 0, "18:x _ 19 a", 1, "23");
        texts.hole(true, 0, "20 _ 19 a 19 a", 1, "0");
        texts.hole(true, 0, "21:x _ 19 a", 1, "0123");
        texts.hole(true, 0, "22:x:y _ 19 a 19 a", 1, "1");
        texts.hole(true, 1, "23:j/2 d _", 2, "0");
    }

    private static void lastOfTwo() {
        for (int type = 0; type < 4; type++) {
            for (int of = 0; of < 4; of++) {
                String two = Texts.VARIABLES[type] + " " + Texts.VARIABLES[of];
                int due = type == of ? 0 : 6;
                // The fun asks for the last one's type: that one is wrong all the same.
                texts.fun(of, "10 a " + two, due, type == of ? -1 : 3);
                texts.fun(of, "12:x:y b " + two, due, type == of ? -1 : 3);
                texts.fun(type, "10 a " + two, due, type == of ? -1 : 3);
                texts.fun(type, "12:x:y b " + two, due, type == of ? -1 : 3);
            }
        }
        for (int type = 0; type < 2; type++) {
            texts.chg(type, "20 a 19 a 19 b", 6, 4);
            texts.chg(type, "20 a 19 b 19 a", 6, 4);
            texts.chg(type, "22:x:y b 19 a 19 b", 6, 4);
            texts.chg(type, "22:x:y b 19 b 19 a", 6, 4);
        }
        texts.fun(0, "10 a 10 a b b a", 6, 6);
        texts.fun(0, "10 a a 10 a b b", 6, 3);
        texts.fun(0, "10 a a 10 a b a", 6, 6);
    }

    private static void definitionsExpression() {
        for (int type = 0; type < 4; type++) {
            for (int of = 0; of < 4; of++) {
                int due = type == of ? 0 : 6;
                int node = type == of ? -1 : 0;
                texts.fun(type, Texts.VARIABLES[of], due, node);
                texts.fun(type, "11:x a " + Texts.VARIABLES[of], due, node);
                texts.fun(type, "10 a " + Texts.VARIABLES[of] + " " + Texts.VARIABLES[of], due, node);
            }
        }
        texts.chg(0, "19 b", 6, 0);
        texts.chg(1, "19 a", 6, 0);
        texts.chg(0, "23:j/2 d a", 6, 0);
        texts.chg(1, "23:o/0", 6, 0);
        texts.chg(1, "21:x b 19 a", 6, 0);
        last("m", 0, -1);
        last("14:f/0", 6, 1);
    }
}
