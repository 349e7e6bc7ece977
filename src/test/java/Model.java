import java.util.ArrayDeque;
import java.util.ArrayList;
import java.util.Deque;
import java.util.HashMap;
import java.util.List;
import java.util.Map;

/** The document once more, in its plainest form: nothing is kept but what was put in, and recursion does the rest. */
final class Model {
    private static final int NONE = -1;
    /** What a kind has: X, Y, F, and its parts by their sorts; a star stands for any number of E. */
    private static final String[] FORMS = {
        "", "X", "", "EE", "EE", "EE", "EE", "EE", "EE", "EE", "EEE", "XEE", "XYEEE", "EE", "F*", "F*", "C", "C",
        "XEC", "E", "ECC", "XEC", "XYECC", "F*"
    };

    private record Parameter(long name, int type) {
    }

    private record Definition(boolean changes, long name, int type, List<Parameter> parameters, List<Integer> nodes) {
    }

    private record Node(int kind, long first, long second, int parts, int home) {
    }

    private record Variable(int binder, int type) {
    }

    private static final class Fault extends Exception {
        private static final long serialVersionUID = 1L;
        final int fault;
        final int node;

        Fault(int fault, int node) {
            this.fault = fault;
            this.node = node;
        }
    }

    private final List<Definition> definitions = new ArrayList<>();
    private final List<Node> nodes = new ArrayList<>();
    private final Map<Integer, Integer> types = new HashMap<>();
    private final Map<Integer, Integer> binders = new HashMap<>();
    private final Map<Integer, Integer> targets = new HashMap<>();
    private int most = NONE;
    private int fault = 0;
    private int faultNode = NONE;
    private int come = 0;

    void clear() {
        definitions.clear();
        nodes.clear();
        fault = 0;
        faultNode = NONE;
        forget();
    }

    private void forget() {
        types.clear();
        binders.clear();
        targets.clear();
        most = NONE;
    }

    int define(boolean changes, long name, int type) {
        boolean taken = definitions.stream().anyMatch(d -> d.name == name);
        if (missing() != 0 || definitions.size() == 64 || taken || name < 1 || type < 0 || type > (changes ? 1 : 3)) {
            return NONE;
        }
        forget();
        definitions.add(new Definition(changes, name, type, new ArrayList<>(), new ArrayList<>()));
        return definitions.size() - 1;
    }

    int parameter(long name, int type) {
        if (definitions.isEmpty() || name < 1 || type < 0 || type > 3) {
            return NONE;
        }
        Definition last = definitions.get(definitions.size() - 1);
        boolean taken = last.parameters.stream().anyMatch(p -> p.name == name);
        if (taken || last.parameters.size() == 8 || !last.nodes.isEmpty()) {
            return NONE;
        }
        forget();
        last.parameters.add(new Parameter(name, type));
        return last.parameters.size();
    }

    int node(int kind, long first, long second, int parts) {
        char wanted = missing();
        if (wanted == 0 || nodes.size() == 4096 || kind < 0 || kind > 23 || wanted != (kind < 18 ? 'E' : 'C')) {
            return NONE;
        }
        String form = FORMS[kind];
        String sorts = form.replaceAll("[XYF]", "");
        boolean named = form.startsWith("X") || form.startsWith("F");
        boolean twice = form.contains("Y");
        if (sorts.equals("*") ? parts < 0 : parts != sorts.length()) {
            return NONE;
        }
        if (named ? first < 1 : first != 0) {
            return NONE;
        }
        if (twice ? second < 1 || first == second : second != 0) {
            return NONE;
        }
        forget();
        definitions.get(definitions.size() - 1).nodes.add(nodes.size());
        nodes.add(new Node(kind, first, second, parts, definitions.size() - 1));
        return nodes.size() - 1;
    }

    private static char sort(Node node, int place) {
        String sorts = FORMS[node.kind].replaceAll("[XYF]", "");
        return sorts.equals("*") ? 'E' : sorts.charAt(place);
    }

    /** The sort of the next node of the last definition; 0 if it is whole, or there is none. */
    private char missing() {
        if (definitions.isEmpty()) {
            return 0;
        }
        Definition last = definitions.get(definitions.size() - 1);
        if (last.nodes.isEmpty()) {
            return last.changes ? 'C' : 'E';
        }
        Deque<int[]> open = openAfter(last, last.nodes.size());
        return open.isEmpty() ? 0 : sort(nodes.get(open.peek()[0]), open.peek()[1]);
    }

    /** The nodes that lack parts after so many of a definition, inner ones first, each with how many it has. */
    private Deque<int[]> openAfter(Definition definition, int count) {
        Deque<int[]> open = new ArrayDeque<>();
        for (int k : definition.nodes.subList(0, count)) {
            if (!open.isEmpty()) {
                open.peek()[1]++;
            }
            open.push(new int[] {k, 0});
            while (!open.isEmpty() && open.peek()[1] == nodes.get(open.peek()[0]).parts) {
                open.pop();
            }
        }
        return open;
    }

    int check() {
        if (missing() != 0) {
            return NONE;
        }
        forget();
        try {
            checkAll();
            fault = 0;
            faultNode = NONE;
        } catch (Fault found) {
            forget();
            fault = found.fault;
            faultNode = found.node;
        }
        return fault;
    }

    private void checkAll() throws Fault {
        if (definitions.isEmpty()) {
            throw new Fault(4, NONE);
        }
        Definition last = definitions.get(definitions.size() - 1);
        if (last.changes || last.name != 427310 || last.type != 3
            || last.parameters.size() != 1 || last.parameters.get(0).type != 3) {
            throw new Fault(4, NONE);
        }
        come = 0;
        for (Definition definition : definitions) {
            Map<Long, Variable> there = new HashMap<>();
            for (int i = 0; i < definition.parameters.size(); i++) {
                Parameter parameter = definition.parameters.get(i);
                there.put(parameter.name, new Variable(-2 - i, parameter.type));
            }
            part(there, definition.parameters.size(), Integer.toString(definition.type));
        }
    }

    /** Looks at the node that is come to next, which can be of the given types where it stands. */
    private int part(Map<Long, Variable> there, int count, String allowed) throws Fault {
        int k = come;
        int type = typeOfNext(there, count);
        if (!allowed.contains(Integer.toString(type))) {
            throw new Fault(6, k);
        }
        types.put(k, type);
        return type;
    }

    private int typeOfNext(Map<Long, Variable> there, int count) throws Fault {
        int k = come++;
        Node node = nodes.get(k);
        most = Math.max(most, count);
        switch (node.kind) {
            case 0: return 0;
            case 1: return variable(k, there.get(node.first));
            case 2: return 1;
            case 10: case 20: {
                part(there, count, "0");
                int type = part(there, count, "0123");
                return part(there, count, "" + type);
            }
            case 11: case 21: {
                int type = part(there, count, "0123");
                return part(with(there, node.first, new Variable(k, type)), count + 1, "0123");
            }
            case 12: case 22: {
                part(there, count, "1");
                int type = part(there, count, "0123");
                Map<Long, Variable> more = with(there, node.first, new Variable(k, 0));
                return part(with(more, node.second, new Variable(k, 3)), count + 2, "" + type);
            }
            case 13: part(there, count, "0"); part(there, count, "3"); return 1;
            case 14: case 15: case 23: return call(k, node, there, count);
            case 16: part(there, count, "0"); return 2;
            case 17: part(there, count, "1"); return 3;
            case 18: {
                int type = part(there, count, "23");
                return part(with(there, node.first, new Variable(k, type - 2)), count + 1, "01");
            }
            case 19: return part(there, count, "01");
            default: part(there, count, "0"); part(there, count, "0"); return 0;
        }
    }

    private static Map<Long, Variable> with(Map<Long, Variable> there, long name, Variable variable) {
        Map<Long, Variable> more = new HashMap<>(there);
        more.put(name, variable);
        return more;
    }

    private int variable(int k, Variable variable) throws Fault {
        if (variable == null) {
            throw new Fault(5, k);
        }
        binders.put(k, variable.binder);
        return variable.type;
    }

    private int call(int k, Node node, Map<Long, Variable> there, int count) throws Fault {
        for (int d = 0; d < definitions.size(); d++) {
            Definition callee = definitions.get(d);
            boolean sameLevel = callee.changes == (node.kind == 23);
            if (callee.name == node.first && sameLevel && callee.parameters.size() == node.parts) {
                targets.put(k, d);
                for (Parameter parameter : callee.parameters) {
                    part(there, count, "" + parameter.type);
                }
                return callee.type;
            }
        }
        throw new Fault(5, k);
    }

    int type(int k) {
        return types.getOrDefault(k, NONE);
    }

    int binder(int k) {
        return binders.getOrDefault(k, NONE);
    }

    int target(int k) {
        return targets.getOrDefault(k, NONE);
    }

    int of(int k, int w) {
        if (k < 0 || k >= nodes.size() || w < 0 || w > 3) {
            return NONE;
        }
        Node node = nodes.get(k);
        return w == 0 ? node.kind : w == 1 ? node.parts : w == 2 ? parent(k, node) : node.home;
    }

    private int parent(int k, Node node) {
        Definition home = definitions.get(node.home);
        Deque<int[]> open = openAfter(home, home.nodes.indexOf(k));
        return open.isEmpty() ? NONE : open.peek()[0];
    }

    int look(int which) {
        switch (which) {
            case 0: return definitions.size();
            case 1: return nodes.size();
            case 2: return fault;
            case 3: return faultNode;
            case 4: return missing() == 0 ? 1 : 0;
            case 5: return most;
            default: return NONE;
        }
    }
}
