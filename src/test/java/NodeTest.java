/** Promise 5: node. */
public final class NodeTest {
    private static final Expect expect = new Expect();
    private static final int ANY = -1;
    private static final int[] PARTS = {
        0, 0, 0, 2, 2, 2, 2, 2, 2, 2, 3, 2, 3, 2, ANY, ANY, 1, 1, 2, 1, 3, 2, 3, ANY
    };
    private static final String WITH_FIRST = " 1 11 12 14 15 18 21 22 23 ";
    private static final String WITH_SECOND = " 12 22 ";

    public static void main(String[] args) {
        kindsAtTheRoot();
        sortsOfParts();
        numbersOfParts();
        names();
        whereNoneCanStand();
        manyParts();
        nothingIsKnownAfter();
        expect.finish();
    }

    private static boolean among(String kinds, int kind) {
        return kinds.contains(" " + kind + " ");
    }

    private static int putKind(LevelTypes x, int kind) {
        long first = among(WITH_FIRST, kind) ? 5 : 0;
        long second = among(WITH_SECOND, kind) ? 6 : 0;
        int parts = kind < 0 || kind > 23 || PARTS[kind] == ANY ? 0 : PARTS[kind];
        return x.node(kind, first, second, parts);
    }

    private static void kindsAtTheRoot() {
        int[] noKinds = {Integer.MIN_VALUE, -1, 24, 25, Integer.MAX_VALUE};
        for (int kind : noKinds) {
            expect.none("kind " + kind, putKind(started(false), kind));
            expect.none("kind " + kind, putKind(started(true), kind));
        }
        for (int kind = 0; kind < 24; kind++) {
            expect.same("kind " + kind + " in a fun", putKind(started(false), kind), kind < 18 ? 0 : -1);
            expect.same("kind " + kind + " in a chg", putKind(started(true), kind), kind < 18 ? -1 : 0);
        }
    }

    private static LevelTypes started(boolean changes) {
        LevelTypes x = new LevelTypes();
        x.define(changes, 1, 0);
        return x;
    }

    /** For each kind and each of its parts: E may stand there, or C, and never both. */
    private static void sortsOfParts() {
        String[] sorts = {
            "", "", "", "EE", "EE", "EE", "EE", "EE", "EE", "EE", "EEE", "EE", "EEE", "EE", "", "", "C", "C",
            "EC", "E", "ECC", "EC", "ECC", ""
        };
        for (int kind = 0; kind < 24; kind++) {
            LevelTypes x = started(kind >= 18);
            putKind(x, kind);
            partsGoIn("kind " + kind, x, sorts[kind]);
        }
        for (int kind : new int[] {14, 15, 23}) {
            LevelTypes x = started(kind == 23);
            x.node(kind, 5, 0, 3);
            partsGoIn("kind " + kind, x, "EEE");
        }
    }

    private static void partsGoIn(String what, LevelTypes x, String sorts) {
        for (int place = 0; place < sorts.length(); place++) {
            String part = what + ", part " + place;
            boolean change = sorts.charAt(place) == 'C';
            expect.same(part + ": not whole", x.look(4), 0);
            expect.none(part + " of the other sort", change ? x.node(0, 0, 0, 0) : x.node(23, 5, 0, 0));
            expect.same(part, change ? x.node(23, 5, 0, 0) : x.node(0, 0, 0, 0), place + 1);
            expect.same(part + " is in", x.of(place + 1, 2), 0);
        }
        expect.same(what + ": whole", x.look(4), 1);
        expect.none(what + ": one E more", x.node(0, 0, 0, 0));
        expect.none(what + ": one C more", x.node(23, 5, 0, 0));
    }

    private static void numbersOfParts() {
        int[] tried = {Integer.MIN_VALUE, -2, -1, 0, 1, 2, 3, 4, 9, 5000, Integer.MAX_VALUE};
        for (int kind = 0; kind < 24; kind++) {
            for (int parts : tried) {
                LevelTypes x = started(kind >= 18);
                boolean right = PARTS[kind] == ANY ? parts >= 0 : parts == PARTS[kind];
                long first = among(WITH_FIRST, kind) ? 5 : 0;
                long second = among(WITH_SECOND, kind) ? 6 : 0;
                String what = "kind " + kind + " of " + parts;
                expect.same(what, x.node(kind, first, second, parts), right ? 0 : -1);
                expect.same(what + ", look(1)", x.look(1), right ? 1 : 0);
                expect.same(what + ", look(4)", x.look(4), right && parts == 0 ? 1 : 0);
            }
        }
    }

    private static void names() {
        long[] tried = {Long.MIN_VALUE, -1, 0, 1, 7, 8, 1L << 32, Long.MAX_VALUE};
        for (int kind = 0; kind < 24; kind++) {
            for (long first : tried) {
                for (long second : tried) {
                    boolean firstRight = among(WITH_FIRST, kind) ? first > 0 : first == 0;
                    boolean secondRight = among(WITH_SECOND, kind) ? second > 0 && second != first : second == 0;
                    LevelTypes x = started(kind >= 18);
                    int parts = PARTS[kind] == ANY ? 2 : PARTS[kind];
                    expect.same("node(" + kind + ", " + first + ", " + second + ", " + parts + ")",
                        x.node(kind, first, second, parts), firstRight && secondRight ? 0 : -1);
                }
            }
        }
    }

    private static void whereNoneCanStand() {
        LevelTypes x = new LevelTypes();
        expect.none("without a definition", x.node(0, 0, 0, 0));
        expect.none("without a definition", x.node(23, 5, 0, 0));
        x.define(false, 1, 0);
        expect.same("the first", x.node(0, 0, 0, 0), 0);
        expect.none("behind a whole definition", x.node(0, 0, 0, 0));
        x.define(true, 2, 0);
        expect.same("numbers go on over all definitions", x.node(23, 5, 0, 0), 1);
        expect.none("behind a whole definition", x.node(23, 5, 0, 0));
    }

    private static void manyParts() {
        LevelTypes x = started(false);
        expect.same("call of 200", x.node(14, 5, 0, 200), 0);
        for (int i = 1; i <= 200; i++) {
            expect.same("not whole", x.look(4), 0);
            x.node(0, 0, 0, 0);
        }
        expect.same("whole", x.look(4), 1);
        LevelTypes y = started(true);
        expect.same("jump of very many", y.node(23, 5, 0, Integer.MAX_VALUE), 0);
        expect.same("call of very many", y.node(14, 5, 0, Integer.MAX_VALUE), 1);
        expect.same("another", y.node(15, 5, 0, Integer.MAX_VALUE), 2);
        expect.same("look(4)", y.look(4), 0);
        expect.same("of(2, 1)", y.of(2, 1), Integer.MAX_VALUE);
    }

    private static void nothingIsKnownAfter() {
        LevelTypes x = new LevelTypes();
        Put.main(x);
        x.check();
        expect.none("behind the last", x.node(0, 0, 0, 0));
        expect.same("type(0), after a refusal", x.type(0), 3);
        x.define(false, 1, 0);
        x.node(0, 0, 0, 0);
        expect.none("type(0)", x.type(0));
        expect.none("type(1)", x.type(1));
    }
}
