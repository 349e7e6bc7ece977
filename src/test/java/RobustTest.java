/** No call throws, whatever it is given and in whatever state, and very deep texts are looked at too. */
public final class RobustTest {
    private static final Expect expect = new Expect();
    private static final int[] INTS = {Integer.MIN_VALUE, -2, -1, 0, 1, 2, 3, 4, 7, 23, 24, 4096, Integer.MAX_VALUE};
    private static final long[] NAMES = {Long.MIN_VALUE, -1, 0, 1, 5, 427310, Long.MAX_VALUE};

    public static void main(String[] args) {
        deepToTheRight();
        deepToTheLeft();
        anyArguments();
        beyondAllLimits();
        expect.finish();
    }

    private static void deepToTheRight() {
        LevelTypes x = new LevelTypes();
        x.define(false, 1, 0);
        for (int i = 0; i < 240; i++) {
            x.node(11, 10 + i, 0, 2);
            x.node(0, 0, 0, 0);
        }
        expect.same("the last node", x.node(1, 10, 0, 0), 480);
        Put.main(x);
        expect.same("check()", x.check(), 0);
        expect.same("binder(480)", x.binder(480), 0);
        expect.same("look(5)", x.look(5), 240);
    }

    private static void deepToTheLeft() {
        LevelTypes x = new LevelTypes();
        x.define(false, 1, 0);
        for (int i = 0; i < 240; i++) {
            x.node(3, 0, 0, 2);
        }
        for (int i = 0; i < 240; i++) {
            x.node(0, 0, 0, 0);
        }
        expect.same("look(4)", x.look(4), 0);
        expect.same("the last node", x.node(2, 0, 0, 0), 480);
        Put.main(x);
        expect.same("check()", x.check(), 6);
        expect.same("look(3)", x.look(3), 480);
    }

    private static void anyArguments() {
        for (int state = 0; state < 5; state++) {
            LevelTypes x = new LevelTypes();
            bring(x, state);
            for (int a : INTS) {
                for (int b : INTS) {
                    x.of(a, b);
                    x.node(a, 0, 0, b);
                    x.node(a, 5, 6, b);
                }
                x.type(a);
                x.binder(a);
                x.target(a);
                x.look(a);
                x.check();
                for (long name : NAMES) {
                    x.parameter(name, a);
                    x.define(a > 0, name, a);
                }
            }
        }
        expect.holds("no call threw", true);
    }

    private static void bring(LevelTypes x, int state) {
        if (state > 0) {
            x.define(state == 4, 1, 0);
        }
        if (state == 2) {
            x.node(3, 0, 0, 2);
        }
        if (state == 3) {
            x.node(0, 0, 0, 0);
            Put.main(x);
            x.check();
        }
    }

    /** What is answered there is free; that it is answered is not. */
    private static void beyondAllLimits() {
        LevelTypes x = new LevelTypes();
        for (int i = 0; i < 100; i++) {
            x.define(false, i + 1, 0);
            for (int j = 0; j < 50; j++) {
                x.node(11, 7 + j, 0, 2);
                x.node(0, 0, 0, 0);
            }
            x.node(0, 0, 0, 0);
            x.check();
        }
        expect.holds("nodes are at most 4096", x.look(1) <= 4096);
        x.clear();
        x.define(false, 1, 0);
        for (int i = 0; i < 10000; i++) {
            x.node(16, 0, 0, 1);
            x.node(19, 0, 0, 1);
        }
        expect.holds("nodes are at most 4096", x.look(1) <= 4096);
        expect.none("check() of one that can not be whole", x.check());
    }
}
