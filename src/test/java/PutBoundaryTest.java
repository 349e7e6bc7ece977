/** The boundary cases of promises 1 to 5, sentence by sentence; each refusal has one cause alone. */
public final class PutBoundaryTest {
    private static final Expect expect = new Expect();
    /** Whole texts and halves of texts, after which clear() and refusals are tried. */
    private static final int STATES = 11;

    public static void main(String[] args) {
        Sentences sentences = new Sentences(expect);
        sentences.hold("There is none. (NONE = -1)", () -> expect.same("NONE", LevelTypes.NONE, -1));
        sentences.hold("Promise 1: No DEFINITIONS.", () -> asAtFirst("new", new LevelTypes()));
        sentences.hold("Promise 2: All is as at first.", PutBoundaryTest::clear);
        define(sentences);
        parameter(sentences);
        node(sentences);
        sentences.finish();
    }

    private static void define(Sentences sentences) {
        sentences.hold("define: One more DEFINITION, a fun (changes false) or a chg: its number",
            PutBoundaryTest::defineNumbers);
        sentences.hold("define: NONE if the one before is not whole", PutBoundaryTest::defineNotWhole);
        sentences.hold("define: there are 64", PutBoundaryTest::defineSixtyFour);
        sentences.hold("define: there is one of this NAME", PutBoundaryTest::defineSameName);
        sentences.hold("define: or name is none", PutBoundaryTest::defineNoName);
        sentences.hold("define: or type is none", PutBoundaryTest::defineNoType);
        sentences.hold("define: Whenever anything is put in, nothing is known as by check()",
            PutBoundaryTest::nothingKnown);
    }

    private static void parameter(Sentences sentences) {
        sentences.hold("parameter: One more parameter of the last DEFINITION: how many it has",
            PutBoundaryTest::parameterNumbers);
        sentences.hold("parameter: NONE if there is none", PutBoundaryTest::parameterNoDefinition);
        sentences.hold("parameter: it has 8", PutBoundaryTest::parameterEight);
        sentences.hold("parameter: one of this NAME", PutBoundaryTest::parameterSameName);
        sentences.hold("parameter: or a NODE", PutBoundaryTest::parameterBehindNode);
        sentences.hold("parameter: or name is none", PutBoundaryTest::parameterNoName);
        sentences.hold("parameter: or type is none", PutBoundaryTest::parameterNoType);
    }

    private static void node(Sentences sentences) {
        sentences.hold("node: The next NODE, of the last DEFINITION: its number", PutBoundaryTest::nodeNumbers);
        sentences.hold("node: first is its X or F (0 where it has none)", PutBoundaryTest::nodeFirst);
        sentences.hold("node: second its Y (0 where it has none)", PutBoundaryTest::nodeSecond);
        sentences.hold("node: NONE if there is no DEFINITION", PutBoundaryTest::nodeNoDefinition);
        sentences.hold("node: that is whole", PutBoundaryTest::nodeWhole);
        sentences.hold("node: there are 4096", PutBoundaryTest::nodeFull);
        sentences.hold("node: it is no kind", PutBoundaryTest::nodeNoKind);
        sentences.hold("node: no kind that can stand there", PutBoundaryTest::nodeOtherSort);
        sentences.hold("node: parts is not what it says above", PutBoundaryTest::nodeParts);
        sentences.hold("node: or first or second is none", PutBoundaryTest::nodeNoName);
        sentences.hold("node: or both are one NAME", PutBoundaryTest::nodeOneName);
    }

    private static void asAtFirst(String when, LevelTypes x) {
        int[] looks = {0, 0, 0, -1, 1, -1};
        for (int which = 0; which < looks.length; which++) {
            expect.same(when + ": look(" + which + ")", x.look(which), looks[which]);
        }
        for (int k = -1; k < 3; k++) {
            expect.none(when + ": type(" + k + ")", x.type(k));
            expect.none(when + ": binder(" + k + ")", x.binder(k));
            expect.none(when + ": target(" + k + ")", x.target(k));
            for (int w = -1; w < 5; w++) {
                expect.none(when + ": of(" + k + ", " + w + ")", x.of(k, w));
            }
        }
        expect.none(when + ": parameter", x.parameter(1, 0));
        expect.none(when + ": E", x.node(0, 0, 0, 0));
        expect.none(when + ": C", x.node(23, 5, 0, 0));
    }

    private static void bring(LevelTypes x, int state) {
        switch (state) {
            case 0: break;
            case 1: x.define(false, 'f', 0); break;
            case 2: x.define(true, 'f', 1); x.parameter('a', 3); break;
            case 3: x.define(false, 'f', 0); x.node(3, 0, 0, 2); x.node(0, 0, 0, 0); break;
            case 4: x.define(true, 'f', 0); x.node(18, 'x', 0, 2); break;
            case 5: Put.fun(x, 'f', 0, "", "0"); break;
            case 6: Put.fun(x, 'f', 0, "", "14:f/0"); Put.main(x); x.check(); break;
            case 7: x.check(); break;
            case 8: Put.fun(x, 'f', 0, "", "3 0 z"); Put.main(x); x.check(); break;
            case 9: Put.fun(x, 'f', 0, "", "3 0 2"); Put.main(x); x.check(); x.define(false, 'g', 0); break;
            default: fill(x, 64); break;
        }
    }

    private static void fill(LevelTypes x, int definitions) {
        for (int i = 1; i <= definitions; i++) {
            x.define(false, i, 0);
            x.node(0, 0, 0, 0);
        }
    }

    private static void clear() {
        for (int state = 0; state < STATES; state++) {
            LevelTypes x = new LevelTypes();
            bring(x, state);
            x.clear();
            asAtFirst("cleared, from state " + state, x);
            x.clear();
            x.clear();
            expect.same("look(0), cleared again, from state " + state, x.look(0), 0);
            LevelTypes y = new LevelTypes();
            goesOnAs(y, x, "cleared, from state " + state);
        }
    }

    private static void goesOnAs(LevelTypes y, LevelTypes x, String when) {
        for (LevelTypes each : new LevelTypes[] {x, y}) {
            Put.chg(each, 'f', 1, "a3 b0", "18:x a 22:y:z x 19 x 23:f/2 z y");
            Put.main(each);
        }
        expect.holds(when + ", then a text: the same", Snapshot.of(x).equals(Snapshot.of(y)));
        expect.same(when + ", then a text: check()", x.check(), y.check());
        expect.holds(when + ", then check(): the same", Snapshot.of(x).equals(Snapshot.of(y)));
    }

    private static void defineNumbers() {
        LevelTypes x = new LevelTypes();
        for (int i = 0; i < 64; i++) {
            boolean changes = i % 3 == 0;
            expect.same("definition " + i, x.define(changes, 100 - i, i % 2), i);
            expect.same("look(0)", x.look(0), i + 1);
            expect.same("the other level's node of " + i, Forms.leaf(x, changes ? 'E' : 'C'), -1);
            expect.same("node of " + i, Forms.leaf(x, changes ? 'C' : 'E'), i);
            expect.same("of(" + i + ", 3)", x.of(i, 3), i);
        }
    }

    private static void defineNotWhole() {
        LevelTypes x = new LevelTypes();
        expect.same("behind none", x.define(false, 1, 0), 0);
        expect.none("behind one without anything", x.define(false, 2, 0));
        x.parameter(7, 0);
        expect.none("behind one without a node", x.define(false, 2, 0));
        x.node(14, 1, 0, 2);
        expect.none("behind one that lacks two", x.define(true, 2, 0));
        x.node(0, 0, 0, 0);
        expect.none("behind one that lacks one", x.define(true, 2, 0));
        x.node(16, 0, 0, 1);
        expect.none("behind one that lacks a C", x.define(true, 2, 0));
        x.node(19, 0, 0, 1);
        expect.none("behind one that lacks the last of all", x.define(true, 2, 0));
        x.node(0, 0, 0, 0);
        expect.same("behind a whole one", x.define(true, 2, 0), 1);
        expect.none("behind the next, without anything", x.define(false, 3, 0));
        x.node(23, 5, 0, 0);
        expect.same("behind one of one node without parts", x.define(false, 3, 0), 2);
    }

    private static void defineSixtyFour() {
        LevelTypes x = new LevelTypes();
        fill(x, 62);
        expect.same("the 63rd", x.define(true, 1000, 0), 62);
        x.node(23, 5, 0, 0);
        expect.same("the 64th", x.define(false, 1001, 0), 63);
        x.node(0, 0, 0, 0);
        expect.none("a 65th, a fun", x.define(false, 1002, 0));
        expect.none("a 65th, a chg", x.define(true, 1002, 0));
        expect.none("a 65th, by the last name", x.define(false, 427310, 3));
        expect.same("look(0)", x.look(0), 64);
        expect.none("a node behind the 64th", x.node(0, 0, 0, 0));
        LevelTypes y = new LevelTypes();
        fill(y, 63);
        Put.main(y);
        expect.same("64, of which the last is as it has to be: check()", y.check(), 0);
        expect.none("a 65th when known", y.define(false, 1002, 0));
        expect.same("type(63) is known still", y.type(63), 3);
    }

    private static void defineSameName() {
        LevelTypes x = new LevelTypes();
        fill(x, 40);
        for (int i = 1; i <= 40; i++) {
            expect.none("fun " + i + " again", x.define(false, i, 0));
            expect.none("chg " + i + " again", x.define(true, i, 0));
            expect.none("fun " + i + " again, of another type", x.define(false, i, 3));
        }
        expect.same("a name with the same lower half", x.define(false, 1 + (1L << 32), 0), 40);
        x.node(0, 0, 0, 0);
        expect.none("that one again", x.define(false, 1 + (1L << 32), 0));
        expect.same("the greatest name", x.define(true, Long.MAX_VALUE, 0), 41);
        x.parameter(500, 0);
        x.node(21, 501, 0, 2);
        x.node(0, 0, 0, 0);
        x.node(23, 502, 0, 0);
        expect.none("the greatest name again", x.define(false, Long.MAX_VALUE, 0));
        expect.same("the name of a parameter", x.define(false, 500, 0), 42);
        x.node(0, 0, 0, 0);
        expect.same("the name of an X", x.define(false, 501, 0), 43);
        x.node(0, 0, 0, 0);
        expect.same("the name of an F", x.define(false, 502, 0), 44);
    }

    private static void defineNoName() {
        for (long name : Forms.NO_NAMES) {
            LevelTypes x = new LevelTypes();
            expect.none("fun " + name, x.define(false, name, 0));
            expect.none("chg " + name, x.define(true, name, 0));
            expect.same("look(0) behind " + name, x.look(0), 0);
            expect.same("look(4) behind " + name, x.look(4), 1);
        }
    }

    private static void defineNoType() {
        LevelTypes x = new LevelTypes();
        for (int type : new int[] {-2, -1, 4, 5}) {
            expect.none("fun of " + type, x.define(false, 1, type));
        }
        for (int type : new int[] {-2, -1, 2, 3, 4, 5}) {
            expect.none("chg of " + type, x.define(true, 1, type));
        }
        for (int type : Forms.FAR_INTS) {
            expect.none("fun of " + type, x.define(false, 1, type));
            expect.none("chg of " + type, x.define(true, 1, type));
        }
        expect.same("look(0)", x.look(0), 0);
        expect.same("the name is free still", x.define(true, 1, 1), 0);
    }

    private static void nothingKnown() {
        LevelTypes x = new LevelTypes();
        Put.fun(x, 'f', 0, "a0", "14:f/1 a");
        Put.main(x);
        expect.same("check()", x.check(), 0);
        known("by check()", x, true);
        expect.same("define", x.define(false, 'g', 0), 2);
        known("behind define", x, false);
        x.parameter('b', 0);
        known("behind parameter", x, false);
        x.node(3, 0, 0, 2);
        known("behind node", x, false);
        x.node(0, 0, 0, 0);
        x.node(0, 0, 0, 0);
        known("behind the last node", x, false);
        x.clear();
        Put.fun(x, 'f', 0, "a0", "14:f/1 a");
        Put.main(x);
        known("the same text once more, ahead of check()", x, false);
        x.check();
        known("the same text once more, by check()", x, true);
    }

    private static void known(String when, LevelTypes x, boolean known) {
        expect.same(when + ": type(0)", x.type(0), known ? 0 : -1);
        expect.same(when + ": binder(1)", x.binder(1), known ? -2 : -1);
        expect.same(when + ": target(0)", x.target(0), known ? 0 : -1);
        expect.same(when + ": type(2)", x.type(2), known ? 3 : -1);
        expect.same(when + ": look(5)", x.look(5), known ? 1 : -1);
    }

    private static void parameterNumbers() {
        LevelTypes x = new LevelTypes();
        for (int d = 0; d < 3; d++) {
            x.define(d == 1, 1 + d, 0);
            for (int i = 1; i <= 8 - d; i++) {
                expect.same("parameter " + i + " of " + d, x.parameter(i, i % 4), i);
            }
            Forms.leaf(x, d == 1 ? 'C' : 'E');
        }
    }

    private static void parameterNoDefinition() {
        LevelTypes x = new LevelTypes();
        expect.none("new", x.parameter(1, 0));
        expect.none("new, again", x.parameter(Long.MAX_VALUE, 3));
        x.define(false, 0, 0);
        expect.none("behind a refused define", x.parameter(1, 0));
        x.define(false, 1, 0);
        expect.same("behind define", x.parameter(1, 0), 1);
        x.clear();
        expect.none("cleared", x.parameter(1, 0));
    }

    private static void parameterEight() {
        for (boolean changes : new boolean[] {false, true}) {
            LevelTypes x = Forms.started(changes);
            for (int i = 1; i <= 7; i++) {
                x.parameter(i, 0);
            }
            expect.same("the eighth", x.parameter(8, 0), 8);
            expect.none("a ninth", x.parameter(9, 0));
            expect.none("a ninth, of another type", x.parameter(10, 3));
            eightAreKept(x, changes);
        }
    }

    /** A call of eight parts is right, with one of nine there is a fault: the ninth was not taken. */
    private static void eightAreKept(LevelTypes x, boolean changes) {
        int kind = changes ? 23 : 14;
        x.node(kind, 77, 0, 8);
        for (int i = 1; i <= 8; i++) {
            x.node(1, i, 0, 0);
        }
        Put.main(x);
        expect.same("a call of eight: check()", x.check(), 0);
        expect.same("binder of the eighth", x.binder(8), -9);
        expect.same("look(5)", x.look(5), 8);
        LevelTypes y = Forms.started(changes);
        for (int i = 1; i <= 9; i++) {
            y.parameter(i, 0);
        }
        y.node(kind, 77, 0, 9);
        for (int i = 1; i <= 9; i++) {
            y.node(0, 0, 0, 0);
        }
        Put.main(y);
        expect.same("a call of nine: check()", y.check(), 5);
    }

    private static void parameterSameName() {
        LevelTypes x = Forms.started(false);
        long[] names = {3, Long.MAX_VALUE, 3 + (1L << 32), 1, 1L << 32, 77, 5};
        for (int i = 0; i < names.length; i++) {
            expect.same("parameter " + names[i], x.parameter(names[i], 0), i + 1);
            for (int j = 0; j <= i; j++) {
                expect.none("parameter " + names[j] + " again", x.parameter(names[j], 0));
                expect.none("parameter " + names[j] + " again, of another type", x.parameter(names[j], 2));
            }
        }
        x.node(0, 0, 0, 0);
        x.define(true, 78, 0);
        for (int i = 0; i < names.length; i++) {
            expect.same("parameter " + names[i] + " of the next", x.parameter(names[i], 3), i + 1);
        }
    }

    private static void parameterBehindNode() {
        for (boolean changes : new boolean[] {false, true}) {
            LevelTypes x = Forms.started(changes);
            expect.none("a node that can not be", x.node(24, 0, 0, 0));
            expect.same("behind a refused node", x.parameter(1, 0), 1);
            x.node(changes ? 19 : 3, 0, 0, changes ? 1 : 2);
            expect.none("behind the first node", x.parameter(2, 0));
            x.node(0, 0, 0, 0);
            expect.none("behind the second node", x.parameter(2, 0));
            x.node(0, 0, 0, 0);
            expect.none("behind a whole one", x.parameter(2, 0));
            x.define(false, 78, 0);
            expect.same("behind the next define", x.parameter(2, 0), 1);
            x.node(0, 0, 0, 0);
            expect.none("behind a whole one of one node", x.parameter(3, 0));
        }
    }

    private static void parameterNoName() {
        for (long name : Forms.NO_NAMES) {
            LevelTypes x = Forms.started(true);
            expect.none("parameter " + name, x.parameter(name, 0));
            expect.same("one behind it is the first", x.parameter(1, 0), 1);
        }
    }

    private static void parameterNoType() {
        LevelTypes x = Forms.started(true);
        for (int type : new int[] {-2, -1, 4, 5}) {
            expect.none("of type " + type, x.parameter(1, type));
        }
        for (int type : Forms.FAR_INTS) {
            expect.none("of type " + type, x.parameter(1, type));
        }
        expect.same("the name is free still", x.parameter(1, 3), 1);
    }

    private static void nodeNumbers() {
        LevelTypes x = new LevelTypes();
        x.define(false, 1, 0);
        expect.same("the first", x.node(3, 0, 0, 2), 0);
        expect.same("look(1)", x.look(1), 1);
        expect.none("one that can not be", x.node(3, 0, 0, 3));
        expect.same("look(1)", x.look(1), 1);
        expect.same("the second", x.node(0, 0, 0, 0), 1);
        expect.same("the third", x.node(0, 0, 0, 0), 2);
        x.define(true, 2, 0);
        expect.same("the first of the next", x.node(23, 5, 0, 0), 3);
        expect.same("of(2, 3)", x.of(2, 3), 0);
        expect.same("of(3, 3)", x.of(3, 3), 1);
        expect.same("of(3, 2)", x.of(3, 2), -1);
    }

    private static void nodeFirst() {
        for (int kind = 0; kind < Forms.KINDS; kind++) {
            int parts = Forms.sorts(kind).length();
            for (long first : Forms.NAMES) {
                int due = Forms.hasFirst(kind) ? 0 : -1;
                expect.same("kind " + kind + " of " + first,
                    Forms.startedFor(kind).node(kind, first, Forms.second(kind), parts), due);
            }
            int due = Forms.hasFirst(kind) ? -1 : 0;
            expect.same("kind " + kind + " of 0", Forms.startedFor(kind).node(kind, 0, Forms.second(kind), parts), due);
            expect.none("kind " + kind + " of -1", Forms.startedFor(kind).node(kind, -1, Forms.second(kind), parts));
        }
    }

    private static void nodeSecond() {
        for (int kind = 0; kind < Forms.KINDS; kind++) {
            int parts = Forms.sorts(kind).length();
            for (long second : Forms.NAMES) {
                int due = Forms.hasSecond(kind) ? 0 : -1;
                expect.same("kind " + kind + " with " + second,
                    Forms.startedFor(kind).node(kind, Forms.first(kind), second, parts), due);
            }
            int due = Forms.hasSecond(kind) ? -1 : 0;
            expect.same("kind " + kind + " with 0", Forms.startedFor(kind).node(kind, Forms.first(kind), 0, parts), due);
            expect.none("kind " + kind + " with -1", Forms.startedFor(kind).node(kind, Forms.first(kind), -1, parts));
        }
    }

    private static void nodeNoDefinition() {
        for (int kind = 0; kind < Forms.KINDS; kind++) {
            LevelTypes x = new LevelTypes();
            expect.none("kind " + kind + ", new", Forms.put(x, kind));
            x.define(false, -1, 0);
            expect.none("kind " + kind + ", behind a refused define", Forms.put(x, kind));
            x.define(Forms.isChange(kind), 1, 0);
            x.clear();
            expect.none("kind " + kind + ", cleared", Forms.put(x, kind));
            expect.same("look(1)", x.look(1), 0);
        }
    }

    private static void nodeWhole() {
        for (boolean changes : new boolean[] {false, true}) {
            LevelTypes x = Forms.started(changes);
            Forms.leaf(x, changes ? 'C' : 'E');
            for (int kind = 0; kind < Forms.KINDS; kind++) {
                expect.none("kind " + kind + " behind one node", Forms.put(x, kind));
            }
            x.define(changes, 78, 0);
            Put.expression(x, changes ? "18:x 14:f/2 0 0 20 0 19 0 19 0" : "3 16 19 0 14:f/1 10 0 0 0");
            int nodes = x.look(1);
            for (int kind = 0; kind < Forms.KINDS; kind++) {
                expect.none("kind " + kind + " behind many nodes", Forms.put(x, kind));
            }
            expect.same("look(1)", x.look(1), nodes);
        }
    }

    /** Further than 512 calls go, where what is answered is free: this class's own limit holds there too. */
    private static void nodeFull() {
        LevelTypes x = Forms.started(false);
        x.node(14, 5, 0, 5000);
        for (int k = 1; k < 4095; k++) {
            x.node(0, 0, 0, 0);
        }
        expect.same("the 4096th", x.node(0, 0, 0, 0), 4095);
        expect.none("a 4097th", x.node(0, 0, 0, 0));
        expect.none("a 4097th, with parts", x.node(3, 0, 0, 2));
        expect.same("look(1)", x.look(1), 4096);
        expect.same("look(4)", x.look(4), 0);
        expect.same("of(4095, 2)", x.of(4095, 2), 0);
        expect.none("of(4096, 0)", x.of(4096, 0));
        expect.none("check()", x.check());
    }

    private static void nodeNoKind() {
        for (boolean changes : new boolean[] {false, true}) {
            for (int parts = 0; parts <= 3; parts++) {
                LevelTypes x = Forms.started(changes);
                for (int kind : new int[] {-24, -2, -1, 24, 25, 26, 32}) {
                    noKind(x, kind, parts);
                }
                for (int kind : Forms.FAR_INTS) {
                    noKind(x, kind, parts);
                }
                expect.same("look(1)", x.look(1), 0);
            }
        }
    }

    private static void noKind(LevelTypes x, int kind, int parts) {
        expect.none("kind " + kind + " of " + parts, x.node(kind, 0, 0, parts));
        expect.none("kind " + kind + " X of " + parts, x.node(kind, 5, 0, parts));
        expect.none("kind " + kind + " X Y of " + parts, x.node(kind, 5, 6, parts));
    }

    /** At each place of each kind, every kind of the other sort is refused, and one of the right sort is taken. */
    private static void nodeOtherSort() {
        for (int kind = 0; kind < Forms.KINDS; kind++) {
            String sorts = Forms.hasAnyNumber(kind) ? "EEE" : Forms.sorts(kind);
            LevelTypes x = Forms.startedFor(kind);
            x.node(kind, Forms.first(kind), Forms.second(kind), sorts.length());
            for (int place = 0; place < sorts.length(); place++) {
                boolean change = sorts.charAt(place) == 'C';
                for (int part = 0; part < Forms.KINDS; part++) {
                    if (Forms.isChange(part) != change) {
                        expect.none("kind " + part + " as part " + place + " of " + kind, Forms.put(x, part));
                    }
                }
                expect.same("part " + place + " of " + kind, Forms.leaf(x, sorts.charAt(place)), place + 1);
            }
        }
    }

    private static void nodeParts() {
        for (int kind = 0; kind < Forms.KINDS; kind++) {
            for (int parts = -3; parts <= 5; parts++) {
                nodeParts(kind, parts);
            }
            for (int parts : Forms.FAR_INTS) {
                nodeParts(kind, parts);
            }
        }
    }

    private static void nodeParts(int kind, int parts) {
        LevelTypes x = Forms.startedFor(kind);
        boolean right = Forms.hasAnyNumber(kind) ? parts >= 0 : parts == Forms.sorts(kind).length();
        int answer = x.node(kind, Forms.first(kind), Forms.second(kind), parts);
        expect.same("kind " + kind + " of " + parts, answer, right ? 0 : -1);
        expect.same("look(1)", x.look(1), right ? 1 : 0);
        expect.same("look(4)", x.look(4), right && parts == 0 ? 1 : 0);
        expect.same("of(0, 1)", x.of(0, 1), right ? parts : -1);
    }

    private static void nodeNoName() {
        for (int kind = 0; kind < Forms.KINDS; kind++) {
            int parts = Forms.sorts(kind).length();
            for (long name : Forms.NO_NAMES) {
                LevelTypes x = Forms.startedFor(kind);
                if (Forms.hasFirst(kind) || name != 0) {
                    expect.none("kind " + kind + " of " + name, x.node(kind, name, Forms.second(kind), parts));
                }
                if (Forms.hasSecond(kind) || name != 0) {
                    expect.none("kind " + kind + " with " + name, x.node(kind, Forms.first(kind), name, parts));
                }
                expect.none("kind " + kind + " of " + name + " twice", x.node(kind, name, name == 0 ? -1 : name, parts));
                expect.same("look(1)", x.look(1), 0);
            }
        }
    }

    private static void nodeOneName() {
        for (int kind : new int[] {12, 22}) {
            for (long name : Forms.NAMES) {
                LevelTypes x = Forms.startedFor(kind);
                expect.none("kind " + kind + " of " + name + " twice", x.node(kind, name, name, 3));
                expect.same("look(1)", x.look(1), 0);
            }
            expect.same("two names with the same lower half", Forms.startedFor(kind).node(kind, 1, 1 + (1L << 32), 3), 0);
            expect.same("the greatest and the least", Forms.startedFor(kind).node(kind, Long.MAX_VALUE, 1, 3), 0);
            expect.same("neighbours", Forms.startedFor(kind).node(kind, 8, 9, 3), 0);
            expect.same("neighbours, downwards", Forms.startedFor(kind).node(kind, 9, 8, 3), 0);
            // Names that stand elsewhere are no hindrance.
            LevelTypes x = Forms.startedFor(kind);
            x.parameter(8, 0);
            expect.same("a parameter's and the definition's own", x.node(kind, 8, 77, 3), 0);
        }
    }
}
