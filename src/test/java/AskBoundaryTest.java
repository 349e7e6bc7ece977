/** The boundary cases of promises 7 to 11, sentence by sentence. */
public final class AskBoundaryTest {
    private static final Expect expect = new Expect();
    /** Numbers of nodes that no text here has. */
    private static final int[] NO_NODES = {Integer.MIN_VALUE, Integer.MIN_VALUE + 1, -65536, -256, -3, -2, -1, 256, 4095,
        4096, 65536, 65537, 1 << 30, Integer.MAX_VALUE};

    public static void main(String[] args) {
        Sentences sentences = new Sentences(expect);
        sentences.hold("type: Known by check(), if it had no fault: the TYPE of NODE k", AskBoundaryTest::typeKnown);
        sentences.hold("type: NONE if it is not known", AskBoundaryTest::typeNotKnown);
        sentences.hold("binder: the NODE that binds the X of NODE k (kind 1)", AskBoundaryTest::binderIsNode);
        sentences.hold("binder: -2 - i for parameter i", AskBoundaryTest::binderIsParameter);
        sentences.hold("binder: NONE if there is none", AskBoundaryTest::noBinder);
        sentences.hold("binder: or it is not known", AskBoundaryTest::binderNotKnown);
        sentences.hold("target: the number of the DEFINITION that is the F of NODE k", AskBoundaryTest::targets);
        sentences.hold("target: NONE likewise", AskBoundaryTest::noTarget);
        of(sentences);
        look(sentences);
        sentences.finish();
    }

    private static void of(Sentences sentences) {
        sentences.hold("of: w = 0: its kind", AskBoundaryTest::ofKind);
        sentences.hold("of: 1: its parts", AskBoundaryTest::ofParts);
        sentences.hold("of: 2: the NODE that it is in at once (NONE for the first of a DEFINITION)",
            AskBoundaryTest::ofOuter);
        sentences.hold("of: 3: its DEFINITION", AskBoundaryTest::ofDefinition);
        sentences.hold("of: NONE if there is none such", AskBoundaryTest::ofNoNode);
        sentences.hold("of: or no such w", AskBoundaryTest::ofNoSuch);
    }

    private static void look(Sentences sentences) {
        sentences.hold("look: which 0: DEFINITIONS", AskBoundaryTest::lookDefinitions);
        sentences.hold("look: 1: NODES", AskBoundaryTest::lookNodes);
        sentences.hold("look: 2: the fault of the latest check() (0 without one)", AskBoundaryTest::lookFault);
        sentences.hold("look: 2: it stays when more is put in", AskBoundaryTest::lookFaultStays);
        sentences.hold("look: 3: its NODE (NONE for 4, or without one)", AskBoundaryTest::lookFaultNode);
        sentences.hold("look: 4: 1 if the last DEFINITION is whole, or there is none, else 0", AskBoundaryTest::lookWhole);
        sentences.hold("look: 5: the most variables that are there at once", AskBoundaryTest::lookAtOnce);
        sentences.hold("look: 5: in any DEFINITION", AskBoundaryTest::lookAnyDefinition);
        sentences.hold("look: 5: parameters with them", AskBoundaryTest::lookWithParameters);
        sentences.hold("look: 5: NONE if not known by check()", AskBoundaryTest::lookNotKnown);
        sentences.hold("look: NONE for any other which", AskBoundaryTest::lookNoSuch);
    }

    /** Nodes 0 to 9 are a fun's, 10 is another's, 11 to 14 are a chg's, and 15 is the last one's. */
    private static LevelTypes wholeText() {
        LevelTypes x = new LevelTypes();
        Put.fun(x, 'f', 0, "a0 b1", "11:x a 12:y:z b 14:f/2 x b 3 y 15:n/0");
        Put.fun(x, 'n', 0, "", "0");
        Put.chg(x, 'g', 0, "c2", "18:v c 19 v");
        Put.main(x);
        return x;
    }

    private static int ask(LevelTypes x, char what, int k) {
        return what == 't' ? x.type(k) : what == 'b' ? x.binder(k) : x.target(k);
    }

    private static void typeKnown() {
        LevelTypes x = new LevelTypes();
        Put.chg(x, 'g', 0, "c2 d3", "18:x d 22:h:t x 19 0 18:y c 20 y 21:z h 19 z 23:g/2 c t");
        Put.main(x);
        expect.same("check()", x.check(), 0);
        int[] due = {0, 3, 0, 1, 0, 0, 0, 2, 0, 0, 0, 0, 0, 0, 0, 2, 3, 3};
        for (int k = 0; k < due.length; k++) {
            expect.same("type(" + k + ")", x.type(k), due[k]);
        }
        expect.none("type behind the last", x.type(due.length));
        x.check();
        expect.same("type(1), by one more check()", x.type(1), 3);
        expect.same("type of the last, by one more check()", x.type(due.length - 1), 3);
    }

    private static void typeNotKnown() {
        notKnown('t', 0);
    }

    /** What is asked of node k is known by check() alone, without a fault, until more is put in. */
    private static void notKnown(char what, int k) {
        LevelTypes x = new LevelTypes();
        Put.fun(x, 'n', 0, "b0", "14:n/1 b");
        expect.none(what + " ahead of check()", ask(x, what, k));
        x.check();
        expect.none(what + " by fault 4", ask(x, what, k));
        Put.main(x);
        expect.none(what + " ahead of the next check()", ask(x, what, k));
        x.check();
        expect.holds(what + " known", ask(x, what, k) != -1);
        for (int none : NO_NODES) {
            expect.none(what + " of " + none, ask(x, what, none));
        }
        expect.none(what + " behind the last", ask(x, what, 3));
        x.define(false, 'n', 0);
        expect.holds(what + " known behind a refused define", ask(x, what, k) != -1);
        x.define(false, 'o', 0);
        expect.none(what + " behind define", ask(x, what, k));
        x.check();
        expect.none(what + " behind a check() that answers NONE", ask(x, what, k));
        x.clear();
        expect.none(what + " cleared", ask(x, what, k));
        notKnownByFault(what, k, "z", 5);
        notKnownByFault(what, k, "2", 6);
    }

    /** The fault comes behind all nodes that are asked of: they are not known all the same. */
    private static void notKnownByFault(char what, int k, String text, int fault) {
        LevelTypes x = new LevelTypes();
        Put.fun(x, 'n', 0, "b0", "14:n/1 b");
        Put.fun(x, 'q', 0, "", text);
        Put.main(x);
        expect.same("check()", x.check(), fault);
        for (int node = -1; node < 5; node++) {
            expect.none(what + " of " + node + " by fault " + fault, ask(x, what, node));
        }
        expect.none(what + " of " + k + " by fault " + fault, ask(x, what, k));
    }

    private static void binders(LevelTypes x, int... due) {
        expect.same("check()", x.check(), 0);
        for (int k = 0; k < due.length; k++) {
            expect.same("binder(" + k + ")", x.binder(k), due[k]);
        }
    }

    private static void binderIsNode() {
        LevelTypes x = new LevelTypes();
        // Node 0 binds, and so does one of a later definition.
        Put.fun(x, 'f', 0, "", "11:x 0 12:y:z 2 x 11:v y x");
        Put.chg(x, 'g', 0, "c2 b1", "18:x c 21:y x 22:v:w b 19 y 19 v");
        Put.main(x);
        binders(x, -1, -1, -1, -1, 0, -1, 2, 0, -1, -2, -1, 8, -1, -3, -1, 10, -1, 12, -2);
    }

    private static void binderIsParameter() {
        LevelTypes x = new LevelTypes();
        x.define(false, 'f', 0);
        for (int i = 1; i <= 8; i++) {
            x.parameter(i, 0);
        }
        x.node(14, 'f', 0, 8);
        for (int i = 8; i >= 1; i--) {
            x.node(1, i, 0, 0);
        }
        Put.main(x);
        binders(x, -1, -9, -8, -7, -6, -5, -4, -3, -2, -2);
    }

    private static void noBinder() {
        LevelTypes x = wholeText();
        expect.same("check()", x.check(), 0);
        for (int k = 0; k < x.look(1); k++) {
            expect.same("binder(" + k + ") is there", x.binder(k) == -1 ? 0 : 1, x.of(k, 0) == 1 ? 1 : 0);
        }
        for (int none : NO_NODES) {
            expect.none("binder(" + none + ")", x.binder(none));
        }
        expect.none("binder behind the last", x.binder(x.look(1)));
    }

    private static void binderNotKnown() {
        notKnown('b', 1);
    }

    private static void targets() {
        LevelTypes x = new LevelTypes();
        for (int i = 0; i < 63; i++) {
            x.define(false, 1 + i, 0);
            // To the one behind it, but for the last of them, which turns back to the first.
            x.node(14 + i % 2, i == 62 ? 1 : 2 + i, 0, 0);
        }
        x.define(false, Put.MAIN, 3);
        x.parameter('m', 3);
        x.node(14, Put.MAIN, 0, 1);
        x.node(1, 'm', 0, 0);
        expect.same("check()", x.check(), 0);
        for (int i = 0; i < 63; i++) {
            expect.same("target(" + i + ")", x.target(i), i == 62 ? 0 : i + 1);
        }
        expect.same("target(63)", x.target(63), 63);
        LevelTypes y = new LevelTypes();
        Put.fun(y, 'a', 0, "", "0");
        Put.chg(y, 'b', 0, "", "23:c/0");
        Put.chg(y, 'c', 0, "", "23:b/0");
        Put.main(y);
        expect.same("check()", y.check(), 0);
        expect.same("target(1) of a jump", y.target(1), 2);
        expect.same("target(2) of a jump", y.target(2), 1);
    }

    private static void noTarget() {
        notKnown('g', 0);
        LevelTypes x = wholeText();
        expect.same("check()", x.check(), 0);
        for (int k = 0; k < x.look(1); k++) {
            boolean call = x.of(k, 0) == 14 || x.of(k, 0) == 15;
            expect.same("target(" + k + ") is there", x.target(k) == -1 ? 0 : 1, call ? 1 : 0);
        }
    }

    private static void ofKind() {
        for (int kind = 0; kind < Forms.KINDS; kind++) {
            LevelTypes x = Forms.startedFor(kind);
            Forms.put(x, kind);
            expect.same("of(0, 0)", x.of(0, 0), kind);
            expect.none("of(1, 0)", x.of(1, 0));
        }
    }

    private static void ofParts() {
        for (int kind = 0; kind < Forms.KINDS; kind++) {
            LevelTypes x = Forms.startedFor(kind);
            Forms.put(x, kind);
            expect.same("of(0, 1) of kind " + kind, x.of(0, 1), Forms.sorts(kind).length());
        }
        for (int kind : new int[] {14, 15, 23}) {
            for (int parts : new int[] {0, 1, 8, 9, 255, 256, 65535, 65536, Integer.MAX_VALUE}) {
                LevelTypes x = Forms.startedFor(kind);
                x.node(kind, 5, 0, parts);
                expect.same("of(0, 1) of kind " + kind, x.of(0, 1), parts);
                // How many it has, not how many have been put in.
                x.node(0, 0, 0, 0);
                expect.same("of(0, 1) with one part in", x.of(0, 1), parts);
            }
        }
    }

    private static void ofOuter() {
        LevelTypes x = wholeText();
        int[] due = {-1, 0, 0, 2, 2, 4, 4, 2, 7, 7, -1, -1, 11, 11, 13, -1};
        for (int k = 0; k < due.length; k++) {
            expect.same("of(" + k + ", 2)", x.of(k, 2), due[k]);
        }
        x.define(true, 'h', 0);
        x.node(18, 'x', 0, 2);
        expect.none("the first of one that is not whole", x.of(16, 2));
        x.node(1, 'x', 0, 0);
        expect.same("its part", x.of(17, 2), 16);
        x.clear();
        Put.main(x);
        expect.none("the first, cleared", x.of(0, 2));
    }

    private static void ofDefinition() {
        LevelTypes x = new LevelTypes();
        for (int d = 0; d < 64; d++) {
            x.define(false, 1 + d, 0);
            x.node(14, 1, 0, 1);
            x.node(0, 0, 0, 0);
        }
        for (int k = 0; k < 128; k++) {
            expect.same("of(" + k + ", 3)", x.of(k, 3), k / 2);
        }
    }

    private static void ofNoNode() {
        LevelTypes empty = new LevelTypes();
        LevelTypes x = wholeText();
        x.check();
        int nodes = x.look(1);
        for (int w = 0; w < 4; w++) {
            expect.none("of(0, " + w + ") of an empty one", empty.of(0, w));
            expect.none("behind the last, w = " + w, x.of(nodes, w));
            for (int k : NO_NODES) {
                expect.none("of(" + k + ", " + w + ")", x.of(k, w));
            }
        }
        expect.same("the last is there", x.of(nodes - 1, 0), 1);
        x.define(false, 'q', 0);
        expect.none("the first of a definition without a node", x.of(nodes, 3));
        x.node(0, 0, 0, 0);
        expect.same("and with one", x.of(nodes, 3), 4);
        x.clear();
        expect.none("cleared", x.of(0, 0));
    }

    private static void ofNoSuch() {
        LevelTypes x = wholeText();
        for (int w : new int[] {-2, -1, 4, 5}) {
            expect.none("of(0, " + w + ")", x.of(0, w));
            expect.none("of(1, " + w + ")", x.of(1, w));
            expect.none("of(-1, " + w + ")", x.of(-1, w));
        }
        for (int w : Forms.FAR_INTS) {
            expect.none("of(0, " + w + ")", x.of(0, w));
            expect.none("of(1, " + w + ")", x.of(1, w));
        }
    }

    private static void lookDefinitions() {
        LevelTypes x = new LevelTypes();
        expect.same("of an empty one", x.look(0), 0);
        for (int i = 1; i <= 64; i++) {
            x.define(false, i, 0);
            expect.same("look(0)", x.look(0), i);
            x.parameter(1, 0);
            x.node(0, 0, 0, 0);
            expect.same("look(0), whole", x.look(0), i);
        }
        x.define(false, 65, 0);
        expect.same("look(0) of a full one", x.look(0), 64);
        x.clear();
        expect.same("look(0), cleared", x.look(0), 0);
    }

    private static void lookNodes() {
        LevelTypes x = new LevelTypes();
        expect.same("of an empty one", x.look(1), 0);
        x.define(false, 1, 0);
        expect.same("without a node", x.look(1), 0);
        x.node(14, 1, 0, 200);
        for (int i = 1; i <= 200; i++) {
            expect.same("look(1)", x.look(1), i);
            x.node(0, 0, 0, 0);
        }
        x.node(0, 0, 0, 0);
        expect.same("look(1) of a whole one", x.look(1), 201);
        x.define(true, 2, 0);
        expect.same("look(1) behind define", x.look(1), 201);
        x.node(23, 2, 0, 0);
        expect.same("look(1) over both", x.look(1), 202);
        x.clear();
        expect.same("look(1), cleared", x.look(1), 0);
    }

    private static void lookFault() {
        LevelTypes x = new LevelTypes();
        expect.same("ahead of any check()", x.look(2), 0);
        x.check();
        expect.same("fault 4", x.look(2), 4);
        Put.main(x);
        x.check();
        expect.same("4 is gone when there is none", x.look(2), 0);
        Put.fun(x, 'f', 0, "", "0");
        x.check();
        expect.same("fault 4 again", x.look(2), 4);
        for (String text : new String[] {"z", "2"}) {
            LevelTypes y = new LevelTypes();
            int fault = text.equals("z") ? 5 : 6;
            Put.fun(y, 'f', 0, "", text);
            expect.same("ahead of check()", y.look(2), 0);
            y.check();
            expect.same("4 at first", y.look(2), 4);
            Put.main(y);
            y.check();
            expect.same("the next one", y.look(2), fault);
            Put.fun(y, 'g', 0, "", text);
            y.check();
            expect.same("4 at last", y.look(2), 4);
        }
    }

    private static void lookFaultStays() {
        String[] firsts = {"z", "2", "0"};
        int[] faults = {5, 6, 0};
        for (int i = 0; i < firsts.length; i++) {
            LevelTypes x = new LevelTypes();
            Put.fun(x, 'f', 0, "", firsts[i]);
            Put.main(x);
            x.check();
            stays(x, faults[i], faults[i] == 0 ? -1 : 0);
        }
        LevelTypes y = new LevelTypes();
        y.check();
        stays(y, 4, -1);
    }

    private static void stays(LevelTypes x, int fault, int node) {
        said("by check()", x, fault, node);
        x.define(false, 'y', 0);
        said("behind define", x, fault, node);
        x.parameter('p', 0);
        said("behind parameter", x, fault, node);
        x.node(3, 0, 0, 2);
        said("behind node", x, fault, node);
        x.check();
        said("behind a check() that answers NONE", x, fault, node);
        x.node(0, 0, 0, 0);
        x.node(24, 0, 0, 0);
        said("behind a refused node", x, fault, node);
        x.node(0, 0, 0, 0);
        said("behind the last node", x, fault, node);
        x.clear();
        said("cleared", x, 0, -1);
    }

    private static void said(String when, LevelTypes x, int fault, int node) {
        expect.same(when + ", fault " + fault + ": look(2)", x.look(2), fault);
        expect.same(when + ", fault " + fault + ": look(3)", x.look(3), node);
    }

    private static void lookFaultNode() {
        LevelTypes x = new LevelTypes();
        expect.none("ahead of any check()", x.look(3));
        x.check();
        expect.none("fault 4 of an empty one", x.look(3));
        Put.fun(x, 'f', 0, "", "3 0 z");
        x.check();
        expect.none("fault 4", x.look(3));
        Put.main(x);
        x.check();
        expect.same("fault 5", x.look(3), 2);
        Put.fun(x, 'g', 0, "", "0");
        x.check();
        expect.none("fault 4 behind fault 5", x.look(3));
        LevelTypes y = new LevelTypes();
        Put.main(y);
        y.check();
        expect.none("without one", y.look(3));
        LevelTypes z = new LevelTypes();
        Put.fun(z, 'f', 0, "", "2");
        Put.main(z);
        z.check();
        expect.same("the first node of all", z.look(3), 0);
        z.clear();
        Put.fun(z, 'f', 0, "", "0");
        Put.definition(z, false, Put.MAIN, 3, "m3", "11:x 0 z");
        z.check();
        expect.same("the last node of all", z.look(3), 3);
    }

    private static void lookWhole() {
        LevelTypes x = new LevelTypes();
        expect.same("there is none", x.look(4), 1);
        x.define(true, 0, 0);
        expect.same("behind a refused define", x.look(4), 1);
        x.define(true, 1, 0);
        expect.same("without a node", x.look(4), 0);
        x.parameter(1, 3);
        expect.same("with a parameter", x.look(4), 0);
        x.node(18, 2, 0, 2);
        expect.same("lacking two", x.look(4), 0);
        x.node(14, 2, 0, 1);
        expect.same("lacking a part of the first part", x.look(4), 0);
        x.node(0, 0, 0, 0);
        expect.same("lacking one", x.look(4), 0);
        x.node(19, 0, 0, 1);
        expect.same("lacking the part of the last part", x.look(4), 0);
        x.node(0, 0, 0, 0);
        expect.same("whole", x.look(4), 1);
        x.node(0, 0, 0, 0);
        expect.same("behind a refused node", x.look(4), 1);
        x.define(false, 2, 0);
        expect.same("the next, without a node", x.look(4), 0);
        x.clear();
        expect.same("cleared", x.look(4), 1);
        x.define(false, 2, 0);
        x.node(14, 2, 0, 0);
        expect.same("a call without parts", x.look(4), 1);
    }

    private static void most(String parameters, String text, int due) {
        LevelTypes x = new LevelTypes();
        Put.fun(x, 'f', 0, parameters, text);
        Put.main(x);
        expect.same(text + ": check()", x.check(), 0);
        expect.same(text + ": look(5)", x.look(5), due);
    }

    private static void lookAtOnce() {
        most("a0", "11:x 0 0", 2);
        most("a0", "3 11:x 0 0 11:y 0 0", 2);
        most("a0", "11:x 11:y 0 0 11:z 0 0", 3);
        most("a0", "11:x 11:y 11:z 0 0 0 0", 2);
        most("a0", "12:x:y 2 0 0", 3);
        most("a0", "12:x:y 2 11:z 0 0 0", 3);
        most("a0", "12:x:y 2 11:z 0 11:u 0 11:v 0 0 0", 4);
        most("a0", "12:x:y 2 0 11:z 0 0", 4);
        most("a0", "12:x:y 12:x:y 2 2 12:x:y 2 2 2 0 0", 5);
        most("", "11:x 16 18:x 17 21:y 0 19 2 21:z 0 22:v:w x 19 0 19 0 0", 4);
        most("a0", "11:x 0 11:y 0 11:z 0 12:u:v 2 0 0", 6);
        // Not those of one part and of the next together.
        most("a0", "10 11:x 0 0 11:y 0 0 11:z 0 11:u 0 0", 3);
    }

    private static void lookAnyDefinition() {
        for (int place = 0; place < 3; place++) {
            LevelTypes x = new LevelTypes();
            for (int d = 0; d < 3; d++) {
                Put.fun(x, (char) ('f' + d), 0, "", d == place ? "11:x 0 11:y 0 11:z 0 0" : "11:x 0 0");
            }
            Put.main(x);
            expect.same("check()", x.check(), 0);
            expect.same("look(5), the most in " + place, x.look(5), 3);
        }
        LevelTypes y = new LevelTypes();
        Put.fun(y, 'f', 0, "", "11:x 0 0");
        Put.definition(y, false, Put.MAIN, 3, "m3", "11:x 0 11:y 0 m");
        expect.same("check()", y.check(), 0);
        expect.same("look(5), the most in the last", y.look(5), 3);
        y.check();
        expect.same("look(5), by one more check()", y.look(5), 3);
        y.clear();
        Put.main(y);
        y.check();
        expect.same("look(5), of fewer when cleared", y.look(5), 1);
    }

    private static void lookWithParameters() {
        most("", "0", 1);
        most("a0", "0", 1);
        most("a0 b0", "0", 2);
        most("a0 b0 c0 d0 e0 f0 g0 h0", "0", 8);
        most("a0 b0 c0 d0 e0 f0 g0 h0", "11:x 0 0", 9);
        most("a0 b0 c0 d0 e0 f0 g0 h0", "12:x:y 2 0 0", 10);
        // One that is hidden is there all the same: parameters are, in all of an expression.
        most("a0", "11:a 0 11:a 0 a", 3);
        most("a0 b0", "12:a:b 2 0 0", 4);
    }

    private static void lookNotKnown() {
        LevelTypes x = new LevelTypes();
        expect.none("of an empty one", x.look(5));
        x.check();
        expect.none("by fault 4", x.look(5));
        Put.main(x);
        expect.none("ahead of check()", x.look(5));
        x.check();
        expect.same("by check()", x.look(5), 1);
        x.define(false, Put.MAIN, 0);
        expect.same("behind a refused define", x.look(5), 1);
        x.define(false, 1, 0);
        expect.none("behind define", x.look(5));
        x.check();
        expect.none("behind a check() that answers NONE", x.look(5));
        for (String text : new String[] {"z", "2", "3 0 z", "3 0 2"}) {
            LevelTypes y = new LevelTypes();
            Put.fun(y, 'f', 0, "a0 b0", text);
            Put.main(y);
            y.check();
            expect.none(text + ", by a fault", y.look(5));
        }
    }

    private static void lookNoSuch() {
        LevelTypes empty = new LevelTypes();
        LevelTypes x = wholeText();
        x.check();
        for (int which : new int[] {-3, -2, -1, 6, 7, 8}) {
            expect.none("look(" + which + ") of an empty one", empty.look(which));
            expect.none("look(" + which + ")", x.look(which));
        }
        for (int which : Forms.FAR_INTS) {
            expect.none("look(" + which + ") of an empty one", empty.look(which));
            expect.none("look(" + which + ")", x.look(which));
        }
    }
}
