/** The kinds of nodes as the document's list of E and C has them. */
final class Forms {
    static final int KINDS = 24;
    static final int FIRST_CHANGE = 18;
    /** Not one of these is a kind, a type or a small number, though its lowest bits alone may be. */
    static final int[] FAR_INTS = {
        Integer.MIN_VALUE, Integer.MIN_VALUE + 1, -65536, -256, -255, 256, 257, 258, 259, 65536, 65537, 1 << 24, 1 << 30,
        Integer.MAX_VALUE
    };
    static final long[] NO_NAMES = {
        0, -1, -2, -427310, Long.MIN_VALUE, Long.MIN_VALUE + 1, -(1L << 32), -(1L << 32) + 1, -1L << 31
    };
    static final long[] NAMES = {
        1, 2, 427310, (1L << 31) - 1, 1L << 31, (1L << 32) - 1, 1L << 32, (1L << 32) + 1, 1L << 62, Long.MAX_VALUE - 1,
        Long.MAX_VALUE
    };

    /** What a kind has: X, Y, F, and its parts by their sorts; a star stands for any number of E. */
    private static final String[] FORMS = {
        "", "X", "", "EE", "EE", "EE", "EE", "EE", "EE", "EE", "EEE", "XEE", "XYEEE", "EE", "F*", "F*", "C", "C",
        "XEC", "E", "ECC", "XEC", "XYECC", "F*"
    };

    private Forms() {
    }

    static boolean isChange(int kind) {
        return kind >= FIRST_CHANGE;
    }

    static boolean hasFirst(int kind) {
        return FORMS[kind].startsWith("X") || FORMS[kind].startsWith("F");
    }

    static boolean hasSecond(int kind) {
        return FORMS[kind].contains("Y");
    }

    static boolean hasAnyNumber(int kind) {
        return FORMS[kind].endsWith("*");
    }

    /** The parts' sorts in their order, E or C each; none for a kind of any number of them. */
    static String sorts(int kind) {
        return FORMS[kind].replaceAll("[^EC]", "");
    }

    static long first(int kind) {
        return hasFirst(kind) ? 5 : 0;
    }

    static long second(int kind) {
        return hasSecond(kind) ? 6 : 0;
    }

    /** A new object with one definition, in which a node of this kind can come first. */
    static LevelTypes startedFor(int kind) {
        return started(isChange(kind));
    }

    static LevelTypes started(boolean changes) {
        LevelTypes x = new LevelTypes();
        x.define(changes, 77, 0);
        return x;
    }

    /** Puts in a node of this kind with names and parts that are right; of any number, none. */
    static int put(LevelTypes x, int kind) {
        return x.node(kind, first(kind), second(kind), sorts(kind).length());
    }

    /** A whole E or C of one node. */
    static int leaf(LevelTypes x, char sort) {
        return sort == 'C' ? x.node(23, 5, 0, 0) : x.node(0, 0, 0, 0);
    }
}
