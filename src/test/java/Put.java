/**
 * Puts whole texts in. An expression is written in tokens, each node ahead of its parts: a letter is
 * that variable; any other token is KIND, KIND:X, KIND:X:Y or KIND:F/PARTS, where X, Y and F are
 * letters. A letter's code is the NAME.
 */
final class Put {
    static final long MAIN = 427310L;
    private static final int[] PARTS = {
        0, 0, 0, 2, 2, 2, 2, 2, 2, 2, 3, 2, 3, 2, 0, 0, 1, 1, 2, 1, 3, 2, 3, 0
    };

    private Put() {
    }

    /** Parameters are written as letters with the digit of their type: "a0 b3". */
    static void definition(LevelTypes x, boolean changes, long name, int type, String parameters, String expression) {
        taken("define", x.define(changes, name, type));
        for (String parameter : parameters.trim().split("\\s+")) {
            if (!parameter.isEmpty()) {
                taken(parameter, x.parameter(parameter.charAt(0), parameter.charAt(1) - '0'));
            }
        }
        expression(x, expression);
    }

    static void fun(LevelTypes x, char name, int type, String parameters, String expression) {
        definition(x, false, name, type, parameters, expression);
    }

    static void chg(LevelTypes x, char name, int type, String parameters, String expression) {
        definition(x, true, name, type, parameters, expression);
    }

    static void main(LevelTypes x) {
        definition(x, false, MAIN, 3, "m3", "m");
    }

    static void expression(LevelTypes x, String expression) {
        for (String token : expression.trim().split("\\s+")) {
            taken(token + " of " + expression, token(x, token));
        }
    }

    private static int token(LevelTypes x, String token) {
        if (Character.isLetter(token.charAt(0))) {
            return x.node(1, token.charAt(0), 0, 0);
        }
        String[] ends = token.split("/");
        String[] names = ends[0].split(":");
        int kind = Integer.parseInt(names[0]);
        long first = names.length > 1 ? names[1].charAt(0) : 0;
        long second = names.length > 2 ? names[2].charAt(0) : 0;
        return x.node(kind, first, second, ends.length > 1 ? Integer.parseInt(ends[1]) : PARTS[kind]);
    }

    private static void taken(String what, int answer) {
        if (answer == LevelTypes.NONE) {
            System.out.println("could not be put in: " + what);
            System.exit(1);
        }
    }
}
