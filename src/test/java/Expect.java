/** Compares answers with what is due, and ends a test with exit code 1 if one was wrong. */
final class Expect {
    private int wrong = 0;
    private int asked = 0;

    void same(String what, long got, long due) {
        asked++;
        if (got != due) {
            wrong++;
            System.out.println(what + " answered " + got + ", due is " + due);
        }
    }

    void none(String what, long got) {
        same(what, got, LevelTypes.NONE);
    }

    void holds(String what, boolean fact) {
        asked++;
        if (!fact) {
            wrong++;
            System.out.println(what + " does not hold");
        }
    }

    int wrong() {
        return wrong;
    }

    int asked() {
        return asked;
    }

    void finish() {
        System.out.println(asked + " answers, " + wrong + " of them not as due");
        if (wrong != 0) {
            System.exit(1);
        }
    }
}
