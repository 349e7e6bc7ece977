import java.util.ArrayList;
import java.util.List;

/**
 * "What answers false, NONE or a fault changes nothing but what is said": a run of calls is made on
 * two objects, and behind each of its calls one of them gets one call more, which is refused.
 */
public final class RefusalTest {
    private static final Expect expect = new Expect();
    private static final int[] refused = new int[4];
    private static final int DEFINE = 0;
    private static final int PARAMETER = 1;
    private static final int NODE = 2;
    private static final int CHECK = 3;

    /** One call of those that put something in or look at all. */
    private record Call(int what, boolean changes, int kind, long first, long second, int number) {
        int on(LevelTypes x) {
            switch (what) {
                case DEFINE: return x.define(changes, first, number);
                case PARAMETER: return x.parameter(first, number);
                case NODE: return x.node(kind, first, second, number);
                default: return x.check();
            }
        }
    }

    public static void main(String[] args) {
        Sentences sentences = new Sentences(expect);
        sentences.hold("What answers false, NONE or a fault changes nothing but what is said.", RefusalTest::allRuns);
        sentences.finish();
    }

    private static void allRuns() {
        List<Call> tries = tries();
        for (List<Call> run : List.of(withoutFault(), withFaultFive(), withFaultSix())) {
            for (int ahead = 0; ahead <= run.size(); ahead++) {
                for (Call call : tries) {
                    tryBehind(run, ahead, call);
                }
            }
        }
        for (int what = 0; what < refused.length; what++) {
            expect.holds("enough refusals of " + what + ": " + refused[what], refused[what] > 40);
        }
    }

    private static Call define(boolean changes, long name, int type) {
        return new Call(DEFINE, changes, 0, name, 0, type);
    }

    private static Call parameter(long name, int type) {
        return new Call(PARAMETER, false, 0, name, 0, type);
    }

    private static Call node(int kind, long first, long second, int parts) {
        return new Call(NODE, false, kind, first, second, parts);
    }

    private static Call check() {
        return new Call(CHECK, false, 0, 0, 0, 0);
    }

    private static List<Call> withoutFault() {
        return List.of(
            define(true, 5, 1), parameter(1, 3), parameter(2, 0),
            node(18, 3, 0, 2), node(1, 1, 0, 0), node(22, 6, 7, 3), node(1, 3, 0, 0), node(19, 0, 0, 1), node(2, 0, 0, 0),
            node(23, 5, 0, 2), node(1, 7, 0, 0), node(1, 6, 0, 0),
            check(),
            define(false, 427310, 3), parameter(9, 3),
            node(17, 0, 0, 1), node(23, 5, 0, 2), node(1, 9, 0, 0), node(0, 0, 0, 0),
            check(), check());
    }

    private static List<Call> withFaultFive() {
        return List.of(
            define(false, 5, 0), parameter(1, 0), node(11, 2, 0, 2), node(1, 1, 0, 0), node(14, 5, 0, 2),
            node(1, 2, 0, 0), node(0, 0, 0, 0),
            define(false, 427310, 3), parameter(1, 3), node(1, 1, 0, 0),
            check(),
            define(false, 6, 0), node(0, 0, 0, 0),
            check());
    }

    private static List<Call> withFaultSix() {
        return List.of(
            define(false, 5, 1), node(12, 1, 2, 3), node(2, 0, 0, 0), node(2, 0, 0, 0), node(1, 2, 0, 0),
            check(),
            define(false, 427310, 3), parameter(1, 3), node(1, 1, 0, 0),
            check());
    }

    private static List<Call> tries() {
        List<Call> tries = new ArrayList<>();
        for (long name : new long[] {0, -1, Long.MIN_VALUE, 1, 2, 5, 427310}) {
            for (int type : new int[] {-1, 0, 1, 2, 3, 4}) {
                tries.add(define(false, name, type));
                tries.add(define(true, name, type));
                tries.add(parameter(name, type));
            }
        }
        for (int kind = -1; kind <= Forms.KINDS; kind++) {
            for (int parts = -1; parts <= 4; parts++) {
                tries.add(node(kind, 0, 0, parts));
                tries.add(node(kind, 8, 0, parts));
                tries.add(node(kind, 8, 9, parts));
                tries.add(node(kind, 8, 8, parts));
                tries.add(node(kind, 0, 8, parts));
            }
        }
        tries.add(check());
        return tries;
    }

    private static void tryBehind(List<Call> run, int ahead, Call call) {
        LevelTypes x = new LevelTypes();
        LevelTypes y = new LevelTypes();
        replay(run.subList(0, ahead), x);
        replay(run.subList(0, ahead), y);
        int answer = call.on(x);
        boolean fault = call.what == CHECK && answer > 0;
        if (answer != LevelTypes.NONE && !fault) {
            return;
        }
        refused[call.what]++;
        String what = call + " behind " + ahead + " calls";
        same(what, Snapshot.rest(x), Snapshot.rest(y));
        if (fault) {
            expect.same(what + ": what is said", x.look(2), answer);
        } else {
            same(what + ": what is said", Snapshot.said(x), Snapshot.said(y));
        }
        List<Call> rest = run.subList(ahead, run.size());
        same(what + ": the answers behind it", replay(rest, x), replay(rest, y));
        same(what + ": at the end", Snapshot.rest(x), Snapshot.rest(y));
        if (!rest.isEmpty()) {
            same(what + ": what is said at the end", Snapshot.said(x), Snapshot.said(y));
        }
    }

    private static String replay(List<Call> calls, LevelTypes x) {
        StringBuilder answers = new StringBuilder();
        for (Call call : calls) {
            answers.append(call.on(x)).append(' ');
        }
        return answers.toString();
    }

    private static void same(String what, String got, String due) {
        expect.holds(what + ": " + got + " as " + due, got.equals(due));
    }
}
