import java.util.ArrayList;
import java.util.Arrays;
import java.util.List;
import java.util.Random;

/** The same calls, made up from fixed seeds, on the class and on the model: all answers are the same. */
public final class ModelTest {
    private static final int SEEDS = 6000;
    private static final int CALLS = 512;
    private static final long[] ODD_NAMES = {0, -1, 1, 2, 3, 427310, Long.MIN_VALUE, Long.MAX_VALUE};
    private static final int[] ODD_INTS = {Integer.MIN_VALUE, -2, -1, 0, 1, 2, 3, 4, 5, 23, 24, 64, 4096, Integer.MAX_VALUE};

    private static final Expect expect = new Expect();
    private static final int[] faults = new int[7];

    private final Random random;
    private final int seed;
    /** One in so many choices is made wrong on purpose. */
    private final int wrongOneIn;
    private final LevelTypes x = new LevelTypes();
    private final Model model = new Model();
    private final List<int[]> signatures = new ArrayList<>();
    private int calls = 0;

    private record Variable(long name, int type) {
    }

    private ModelTest(int seed) {
        this.seed = seed;
        random = new Random(seed);
        wrongOneIn = seed % 3 == 0 ? 1000000 : seed % 3 == 1 ? 80 : 12;
    }

    public static void main(String[] args) {
        for (int seed = 0; seed < SEEDS && expect.wrong() < 20; seed++) {
            new ModelTest(seed).run();
        }
        System.out.println("checks by fault (1 is NONE): " + Arrays.toString(faults));
        // Without each of these the runs would not show much.
        for (int fault : new int[] {0, 1, 4, 5, 6}) {
            expect.holds("enough checks with " + fault, faults[fault] > 100);
        }
        expect.finish();
    }

    private void run() {
        if (random.nextInt(4) == 0) {
            noise(random.nextInt(60));
            same("clear()", 0, clearBoth());
        }
        int last = 1 + random.nextInt(5);
        planSignatures(last);
        for (int d = 0; d <= last; d++) {
            definition(d);
            if (random.nextInt(3) == 0) {
                check();
                ask(10);
            }
        }
        check();
        ask(CALLS - calls - 20);
        noise(20);
    }

    private int clearBoth() {
        x.clear();
        model.clear();
        return 0;
    }

    private void same(String call, int got, int due) {
        calls++;
        if (calls <= CALLS) {
            expect.same("seed " + seed + ", call " + calls + ": " + call, got, due);
        }
    }

    private boolean wrong() {
        return random.nextInt(wrongOneIn) == 0;
    }

    /** Each is {changes, type, types of parameters ..}; the last one is the one that has to be last. */
    private void planSignatures(int last) {
        for (int d = 0; d < last; d++) {
            int changes = random.nextInt(2);
            int parameters = random.nextInt(10) == 0 ? random.nextInt(9) : random.nextInt(4);
            int[] signature = new int[2 + parameters];
            signature[0] = changes;
            signature[1] = random.nextInt(changes == 1 ? 2 : 4);
            for (int i = 0; i < parameters; i++) {
                signature[2 + i] = random.nextInt(4);
            }
            signatures.add(signature);
        }
        signatures.add(new int[] {0, 3, 3});
    }

    private long nameOf(int d) {
        return d == signatures.size() - 1 ? 427310 : 100 + d;
    }

    private void definition(int d) {
        int[] signature = signatures.get(d);
        define(signature[0] == 1, nameOf(d), wrong() ? random.nextInt(4) : signature[1]);
        List<Variable> there = new ArrayList<>();
        for (int i = 2; i < signature.length; i++) {
            int type = wrong() ? random.nextInt(4) : signature[i];
            there.add(new Variable(i, type));
            parameter(i, type);
        }
        expression(signature[0] == 1, signature[1], there, random.nextInt(5));
        // A refusal on purpose may have left it without its end.
        for (int i = 0; i < 40 && model.look(4) == 0; i++) {
            node(0, 0, 0, 0);
            node(19, 0, 0, 1);
        }
    }

    private void expression(boolean change, int type, List<Variable> there, int depth) {
        int made = wrong() ? random.nextInt(change ? 2 : 4) : type;
        if (change) {
            change(made, there, calls > CALLS / 2 ? 0 : depth);
        } else {
            value(made, there, calls > CALLS / 2 ? 0 : depth);
        }
    }

    private void value(int type, List<Variable> there, int depth) {
        int choice = depth == 0 ? 0 : random.nextInt(7);
        if (choice < 2 && variable(type, there)) {
            return;
        }
        if (choice == 2) {
            put(10, 0, 0, 3);
            parts(there, depth, 0, type, type);
        } else if (choice == 3) {
            let(11, type, there, depth);
        } else if (choice == 4) {
            branch(12, type, there, depth);
        } else if (choice != 5 || !call(14 + random.nextInt(2), type, there, depth)) {
            plain(type, there, depth);
        }
    }

    /** An expression whose kind hangs on its type alone. */
    private void plain(int type, List<Variable> there, int depth) {
        if (type == 0 && depth > 0) {
            put(3 + random.nextInt(7), 0, 0, 2);
            parts(there, depth, 0, 0);
        } else if (type == 1 && depth > 0) {
            put(13, 0, 0, 2);
            parts(there, depth, 0, 3);
        } else if (type >= 2) {
            put(14 + type, 0, 0, 1);
            expression(true, type - 2, there, Math.max(0, depth - 1));
        } else {
            put(type * 2, 0, 0, 0);
        }
    }

    private void change(int type, List<Variable> there, int depth) {
        int choice = depth == 0 ? 5 : random.nextInt(6);
        if (choice == 0) {
            long name = freshName();
            int read = 2 + random.nextInt(2);
            put(18, name, 0, 2);
            expression(false, read, there, depth - 1);
            expression(true, type, with(there, name, read - 2), depth - 1);
        } else if (choice == 1) {
            put(20, 0, 0, 3);
            expression(false, 0, there, depth - 1);
            expression(true, type, there, depth - 1);
            expression(true, type, there, depth - 1);
        } else if (choice == 2) {
            let(21, type, there, depth);
        } else if (choice == 3) {
            branch(22, type, there, depth);
        } else if (choice != 4 || !call(23, type, there, depth)) {
            put(19, 0, 0, 1);
            expression(false, type, there, Math.max(0, depth - 1));
        }
    }

    private void parts(List<Variable> there, int depth, int... types) {
        for (int type : types) {
            expression(false, type, there, depth - 1);
        }
    }

    private void let(int kind, int type, List<Variable> there, int depth) {
        long name = freshName();
        int bound = random.nextInt(4);
        put(kind, name, 0, 2);
        expression(false, bound, there, depth - 1);
        expression(kind == 21, type, with(there, name, bound), depth - 1);
    }

    private void branch(int kind, int type, List<Variable> there, int depth) {
        long name = freshName();
        long other = 1 + name % 9;
        put(kind, name, other, 3);
        expression(false, 1, there, depth - 1);
        expression(kind == 22, type, there, depth - 1);
        expression(kind == 22, type, with(with(there, name, 0), other, 3), depth - 1);
    }

    private boolean call(int kind, int type, List<Variable> there, int depth) {
        int d = random.nextInt(signatures.size());
        int[] signature = signatures.get(d);
        if (signature[0] != (kind == 23 ? 1 : 0) || signature[1] != type) {
            return false;
        }
        put(kind, nameOf(d), 0, signature.length - 2);
        for (int i = 2; i < signature.length; i++) {
            expression(false, signature[i], there, depth - 1);
        }
        return true;
    }

    private boolean variable(int type, List<Variable> there) {
        for (int i = 0; i < there.size(); i++) {
            Variable variable = there.get(random.nextInt(there.size()));
            if (variable.type == type) {
                put(1, variable.name, 0, 0);
                return true;
            }
        }
        return false;
    }

    /** Few names, so that inner variables hide outer ones. */
    private long freshName() {
        return 1 + random.nextInt(9);
    }

    private static List<Variable> with(List<Variable> there, long name, int type) {
        List<Variable> more = new ArrayList<>(there);
        more.removeIf(variable -> variable.name == name);
        more.add(new Variable(name, type));
        return more;
    }

    private void put(int kind, long first, long second, int parts) {
        if (wrong()) {
            noise(1);
        }
        if (wrong() && first != 0) {
            node(kind, 1 + random.nextInt(12), second, parts);
        } else if (wrong() && kind > 13 && kind < 16) {
            node(kind, first, second, random.nextInt(4));
        } else {
            node(kind, first, second, parts);
        }
    }

    private void define(boolean changes, long name, int type) {
        same("define(" + changes + ", " + name + ", " + type + ")",
            x.define(changes, name, type), model.define(changes, name, type));
    }

    private void parameter(long name, int type) {
        same("parameter(" + name + ", " + type + ")", x.parameter(name, type), model.parameter(name, type));
    }

    private void node(int kind, long first, long second, int parts) {
        same("node(" + kind + ", " + first + ", " + second + ", " + parts + ")",
            x.node(kind, first, second, parts), model.node(kind, first, second, parts));
    }

    private void check() {
        int due = model.check();
        same("check()", x.check(), due);
        faults[due < 0 ? 1 : due]++;
        for (int which = -1; which < 7; which++) {
            same("look(" + which + ")", x.look(which), model.look(which));
        }
    }

    private void ask(int count) {
        int nodes = model.look(1);
        for (int i = 0; i < count; i++) {
            int k = random.nextInt(nodes + 3) - 1;
            int w = random.nextInt(6) - 1;
            switch (random.nextInt(4)) {
                case 0 -> same("type(" + k + ")", x.type(k), model.type(k));
                case 1 -> same("binder(" + k + ")", x.binder(k), model.binder(k));
                case 2 -> same("target(" + k + ")", x.target(k), model.target(k));
                default -> same("of(" + k + ", " + w + ")", x.of(k, w), model.of(k, w));
            }
        }
    }

    private int oddInt() {
        return ODD_INTS[random.nextInt(ODD_INTS.length)];
    }

    private long oddName() {
        return ODD_NAMES[random.nextInt(ODD_NAMES.length)];
    }

    private void noise(int count) {
        for (int i = 0; i < count; i++) {
            int k = oddInt();
            switch (random.nextInt(8)) {
                case 0 -> define(random.nextBoolean(), oddName(), oddInt());
                case 1 -> parameter(oddName(), oddInt());
                case 2 -> node(random.nextInt(26) - 1, oddName(), random.nextBoolean() ? 0 : oddName(), oddInt());
                case 3 -> check();
                case 4 -> ask(1);
                case 5 -> same("type(" + k + ")", x.type(k), model.type(k));
                case 6 -> same("look(" + k + ")", x.look(k), model.look(k));
                default -> same("of(" + k + ", 0)", x.of(k, 0), model.of(k, 0));
            }
        }
    }
}
