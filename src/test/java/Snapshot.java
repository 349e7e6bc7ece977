/** All that can be asked of an object, as one text. */
final class Snapshot {
    private Snapshot() {
    }

    static String of(LevelTypes x) {
        return said(x) + rest(x);
    }

    /** The latest check()'s fault and its node. */
    static String said(LevelTypes x) {
        return "fault " + x.look(2) + " at " + x.look(3) + "; ";
    }

    /** All but the latest check()'s fault and its node. */
    static String rest(LevelTypes x) {
        StringBuilder text = new StringBuilder();
        for (int which : new int[] {0, 1, 4, 5}) {
            text.append(x.look(which)).append(' ');
        }
        int nodes = x.look(1);
        for (int k = 0; k < nodes; k++) {
            text.append("; ").append(k).append(':');
            for (int w = 0; w < 4; w++) {
                text.append(' ').append(x.of(k, w));
            }
            text.append(' ').append(x.type(k)).append(' ').append(x.binder(k)).append(' ').append(x.target(k));
        }
        return text.toString();
    }
}
