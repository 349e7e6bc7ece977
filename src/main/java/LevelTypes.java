import java.util.ArrayList;

/**
 * Types of a language of two levels: definitions and expressions are put in node by node, in the
 * order of a text; check() then finds what binds each variable, which definition is used where and
 * the type of each expression, or the first fault.
 */
public final class LevelTypes {
    public static final int NONE = -1;

    private static final int MOST_DEFINITIONS = 64;
    private static final int MOST_PARAMETERS = 8;
    private static final int MOST_NODES = 4096;
    private static final long MAIN_NAME = 427310L;

    private static final int NO_FAULT = 0;
    private static final int NO_MAIN = 4;
    private static final int UNBOUND = 5;
    private static final int MISTYPED = 6;

    private final ArrayList<Definition> definitions;
    private final ArrayList<Node> nodes;
    private boolean known;
    private int fault;
    private int faultNode;
    private int mostVariables;

    public LevelTypes() {
        definitions = new ArrayList<Definition>();
        nodes = new ArrayList<Node>();
        known = false;
        fault = NO_FAULT;
        faultNode = NONE;
        mostVariables = 0;
    }

    public void clear() {
        definitions.clear();
        nodes.clear();
        known = false;
        fault = NO_FAULT;
        faultNode = NONE;
        mostVariables = 0;
    }

    public int define(boolean changes, long name, int type) {
        boolean typeFits = changes ? Type.isWritten(type) : Type.isType(type);
        if (!lastIsWhole() || definitions.size() >= MOST_DEFINITIONS) {
            return NONE;
        }
        if (name <= 0 || !typeFits || definitionNamed(name) != null) {
            return NONE;
        }
        Definition added = new Definition(definitions.size(), changes, name, type);
        definitions.add(added);
        known = false;
        return added.number;
    }

    public int parameter(long name, int type) {
        Definition last = lastDefinition();
        if (last == null || last.begun || last.parameters >= MOST_PARAMETERS) {
            return NONE;
        }
        if (name <= 0 || !Type.isType(type) || last.indexOfParameter(name) != NONE) {
            return NONE;
        }
        last.addParameter(name, type);
        known = false;
        return last.parameters;
    }

    public int node(int kind, long first, long second, int parts) {
        Definition home = lastDefinition();
        if (home == null || home.isWhole() || nodes.size() >= MOST_NODES) {
            return NONE;
        }
        if (!Kind.isKind(kind) || Kind.isChange(kind) != home.wantsChange()) {
            return NONE;
        }
        if (!Kind.partsFit(kind, parts) || !Kind.namesFit(kind, first, second)) {
            return NONE;
        }
        Node added = new Node(nodes.size(), home, kind, first, second, parts);
        nodes.add(added);
        home.take(added);
        known = false;
        return added.number;
    }

    public int check() {
        if (!lastIsWhole()) {
            return NONE;
        }
        fault = NO_FAULT;
        faultNode = NONE;
        mostVariables = 0;
        lookAtAll();
        known = fault == NO_FAULT;
        return fault;
    }

    public int type(int k) {
        Node node = knownNode(k);
        return node == null ? NONE : node.valueType;
    }

    public int binder(int k) {
        Node node = knownNode(k);
        return node == null ? NONE : node.boundBy;
    }

    public int target(int k) {
        Node node = knownNode(k);
        return node == null || node.callee == null ? NONE : node.callee.number;
    }

    public int of(int k, int w) {
        Node node = nodeAt(k);
        if (node == null) {
            return NONE;
        }
        switch (w) {
            case 0:
                return node.kind;
            case 1:
                return node.parts;
            case 2:
                return node.parent == null ? NONE : node.parent.number;
            case 3:
                return node.home.number;
            default:
                return NONE;
        }
    }

    public int look(int which) {
        switch (which) {
            case 0:
                return definitions.size();
            case 1:
                return nodes.size();
            case 2:
                return fault;
            case 3:
                return faultNode;
            case 4:
                return lastIsWhole() ? 1 : 0;
            case 5:
                return known ? mostVariables : NONE;
            default:
                return NONE;
        }
    }

    private Definition lastDefinition() {
        int size = definitions.size();
        return size == 0 ? null : definitions.get(size - 1);
    }

    private boolean lastIsWhole() {
        Definition last = lastDefinition();
        return last == null || last.isWhole();
    }

    private Definition definitionNamed(long name) {
        for (int i = 0; i < definitions.size(); i++) {
            Definition definition = definitions.get(i);
            if (definition.name == name) {
                return definition;
            }
        }
        return null;
    }

    private Node nodeAt(int k) {
        return k < 0 || k >= nodes.size() ? null : nodes.get(k);
    }

    private Node knownNode(int k) {
        return known ? nodeAt(k) : null;
    }

    private void lookAtAll() {
        if (!endsInMain()) {
            fault = NO_MAIN;
            return;
        }
        for (int k = 0; k < nodes.size() && fault == NO_FAULT; k++) {
            lookAt(nodes.get(k));
        }
    }

    private boolean endsInMain() {
        Definition last = lastDefinition();
        return last != null && !last.changes && last.name == MAIN_NAME
            && last.valueType == Type.LMOD
            && last.parameters == 1 && last.parameterType(0) == Type.LMOD;
    }

    private void lookAt(Node node) {
        if (!arriveAt(node)) {
            fault = UNBOUND;
            faultNode = node.number;
            return;
        }
        mostVariables = Math.max(mostVariables, node.variables);
        // A node with parts is not looked at whole before its last part is.
        Node misfit = node.parts == 0 ? firstMisfit(node) : null;
        if (misfit != null) {
            fault = MISTYPED;
            faultNode = misfit.number;
        }
    }

    /** What is known of a node ahead of its parts; false if its X or F is not there. */
    private boolean arriveAt(Node node) {
        node.countVariables();
        if (node.kind == Kind.VARIABLE) {
            return node.bind();
        }
        if (Kind.isCall(node.kind)) {
            return node.aimAt(definitionNamed(node.first));
        }
        node.valueType = Kind.ownType(node.kind);
        return true;
    }

    /** With a leaf, all the nodes that it is the very end of have been looked at: inner ones first. */
    private static Node firstMisfit(Node leaf) {
        Node at = leaf;
        while (at != null) {
            if (!at.fits()) {
                return at;
            }
            if (at.parent != null) {
                at.parent.hearOf(at.place, at.valueType);
            }
            at = at.isLastPart() ? at.parent : null;
        }
        return null;
    }

    /** The types that a value can have. */
    private static final class Type {
        static final int INT = 0;
        static final int LIST = 1;
        static final int IMOD = 2;
        static final int LMOD = 3;

        static boolean isType(int type) {
            return type >= INT && type <= LMOD;
        }

        static boolean isWritten(int type) {
            return type == INT || type == LIST;
        }
    }

    /** What a node's kind alone says of it. */
    private static final class Kind {
        static final int NUMBER = 0;
        static final int VARIABLE = 1;
        static final int NIL = 2;
        static final int FIRST_OPERATION = 3;
        static final int LAST_OPERATION = 9;
        static final int IF = 10;
        static final int LET = 11;
        static final int CASE = 12;
        static final int CONS = 13;
        static final int CALL = 14;
        static final int MEMO = 15;
        static final int IMOD = 16;
        static final int LMOD = 17;
        static final int READ = 18;
        static final int WRITE = 19;
        static final int CHANGE_IF = 20;
        static final int CHANGE_LET = 21;
        static final int CHANGE_CASE = 22;
        static final int JUMP = 23;

        private static final int ANY_NUMBER = -1;
        private static final int[] PARTS = {
            0, 0, 0, 2, 2, 2, 2, 2, 2, 2, 3, 2, 3, 2, ANY_NUMBER, ANY_NUMBER, 1, 1,
            2, 1, 3, 2, 3, ANY_NUMBER
        };

        static boolean isKind(int kind) {
            return kind >= NUMBER && kind <= JUMP;
        }

        /** Whether it is a C, not an E. */
        static boolean isChange(int kind) {
            return kind >= READ;
        }

        static boolean isCall(int kind) {
            return kind == CALL || kind == MEMO || kind == JUMP;
        }

        static boolean isCase(int kind) {
            return kind == CASE || kind == CHANGE_CASE;
        }

        static boolean isLet(int kind) {
            return kind == LET || kind == CHANGE_LET;
        }

        static boolean isBinder(int kind) {
            return kind == LET || kind == CASE
                || kind == READ || kind == CHANGE_LET || kind == CHANGE_CASE;
        }

        /** Whether it is of the type that its last part is of. */
        static boolean isAsLastPart(int kind) {
            return kind >= IF && kind <= CASE || kind >= READ && kind <= CHANGE_CASE;
        }

        /** Whether the part at a place has to be a C. */
        static boolean wantsChange(int kind, int place) {
            switch (kind) {
                case IMOD:
                case LMOD:
                    return true;
                case READ:
                case CHANGE_IF:
                case CHANGE_LET:
                case CHANGE_CASE:
                    return place > 0;
                default:
                    return false;
            }
        }

        static boolean partsFit(int kind, int parts) {
            if (!isKind(kind)) {
                return false;
            }
            return PARTS[kind] == ANY_NUMBER ? parts >= 0 : parts == PARTS[kind];
        }

        static boolean namesFit(int kind, long first, long second) {
            boolean hasFirst = kind == VARIABLE || isBinder(kind) || isCall(kind);
            boolean firstFits = hasFirst ? first > 0 : first == 0;
            boolean secondFits = isCase(kind) ? second > 0 && second != first : second == 0;
            return firstFits && secondFits;
        }

        /** The type of every node of a kind; NONE if it is not the same for all of them. */
        static int ownType(int kind) {
            if (kind == NUMBER || kind >= FIRST_OPERATION && kind <= LAST_OPERATION) {
                return Type.INT;
            }
            switch (kind) {
                case NIL:
                case CONS:
                    return Type.LIST;
                case IMOD:
                    return Type.IMOD;
                case LMOD:
                    return Type.LMOD;
                default:
                    return NONE;
            }
        }
    }

    /** A fun or a chg, and how far its expression has been put in. */
    private static final class Definition {
        final int number;
        final boolean changes;
        final long name;
        final int valueType;
        final long[] parameterNames = new long[MOST_PARAMETERS];
        final int[] parameterTypes = new int[MOST_PARAMETERS];
        int parameters = 0;
        boolean begun = false;
        /** The innermost node that lacks parts; null ahead of the first node and when none does. */
        Node open = null;

        Definition(int number, boolean changes, long name, int valueType) {
            this.number = number;
            this.changes = changes;
            this.name = name;
            this.valueType = valueType;
        }

        boolean isWhole() {
            return begun && open == null;
        }

        boolean wantsChange() {
            return open == null ? changes : Kind.wantsChange(open.kind, open.filled);
        }

        void addParameter(long parameterName, int parameterType) {
            if (parameters < MOST_PARAMETERS) {
                parameterNames[parameters] = parameterName;
                parameterTypes[parameters] = parameterType;
                parameters++;
            }
        }

        int indexOfParameter(long parameterName) {
            for (int i = 0; i < parameters && i < MOST_PARAMETERS; i++) {
                if (parameterNames[i] == parameterName) {
                    return i;
                }
            }
            return NONE;
        }

        int parameterType(int i) {
            return i < 0 || i >= parameters || i >= MOST_PARAMETERS ? NONE : parameterTypes[i];
        }

        void take(Node added) {
            begun = true;
            if (open != null) {
                open.filled++;
            }
            open = added;
            while (open != null && open.filled >= open.parts) {
                open = open.parent;
            }
        }
    }

    /** An expression, and what check() has found of it. */
    private static final class Node {
        final int number;
        final Definition home;
        final Node parent;
        final int place;
        final int kind;
        final long first;
        final long second;
        final int parts;
        int filled = 0;
        int valueType = NONE;
        int typeOfX = NONE;
        int boundBy = NONE;
        Definition callee = null;
        int variables = 0;

        Node(int number, Definition home, int kind, long first, long second, int parts) {
            this.number = number;
            this.home = home;
            this.parent = home.open;
            this.place = home.open == null ? 0 : home.open.filled;
            this.kind = kind;
            this.first = first;
            this.second = second;
            this.parts = parts;
        }

        boolean isLastPart() {
            return parent != null && place == parent.parts - 1;
        }

        void countVariables() {
            if (parent == null) {
                variables = home.parameters;
            } else {
                variables = parent.variables + (isLastPart() ? parent.variablesOfLastPart() : 0);
            }
        }

        int variablesOfLastPart() {
            if (!Kind.isBinder(kind)) {
                return 0;
            }
            return Kind.isCase(kind) ? 2 : 1;
        }

        boolean bindsInLastPart(long name) {
            return Kind.isBinder(kind) && (first == name || second == name);
        }

        /** Finds what binds this X, from the inside out; false if nothing does. */
        boolean bind() {
            Node inner = this;
            while (inner.parent != null) {
                Node outer = inner.parent;
                if (inner.isLastPart() && outer.bindsInLastPart(first)) {
                    boundBy = outer.number;
                    valueType = outer.second == first ? Type.LMOD : outer.typeOfX;
                    return true;
                }
                inner = outer;
            }
            int i = home.indexOfParameter(first);
            boundBy = i == NONE ? NONE : -2 - i;
            valueType = home.parameterType(i);
            return i != NONE;
        }

        /** Takes the definition of this F's name, or null; false if it can not be used here. */
        boolean aimAt(Definition definition) {
            boolean changes = kind == Kind.JUMP;
            if (definition == null || definition.changes != changes || definition.parameters != parts) {
                return false;
            }
            callee = definition;
            valueType = definition.valueType;
            return true;
        }

        /** Whether its type is one that it can have where it stands. */
        boolean fits() {
            return parent == null ? valueType == home.valueType : parent.admits(place, valueType);
        }

        /** While its parts are looked at, an if's or a case's valueType is that of the part before. */
        private boolean admits(int part, int type) {
            switch (kind) {
                case Kind.IF:
                case Kind.CHANGE_IF:
                    return part == 0 ? type == Type.INT : part == 1 || type == valueType;
                case Kind.CASE:
                case Kind.CHANGE_CASE:
                    return part == 0 ? type == Type.LIST : part == 1 || type == valueType;
                case Kind.LET:
                case Kind.CHANGE_LET:
                    return true;
                case Kind.CONS:
                    return type == (part == 0 ? Type.INT : Type.LMOD);
                case Kind.CALL:
                case Kind.MEMO:
                case Kind.JUMP:
                    return callee != null && type == callee.parameterType(part);
                case Kind.LMOD:
                    return type == Type.LIST;
                case Kind.READ:
                    return part > 0 || type == Type.IMOD || type == Type.LMOD;
                case Kind.WRITE:
                    return Type.isWritten(type);
                default:
                    return type == Type.INT;
            }
        }

        /** A part of this node has been looked at whole, and is of a type that it can have. */
        void hearOf(int part, int type) {
            if (part == 0 && Kind.isBinder(kind)) {
                typeOfX = typeOfXAfter(type);
            }
            // Overwritten by each later part: the last one's is the node's own.
            if (Kind.isAsLastPart(kind)) {
                valueType = type;
            }
        }

        private int typeOfXAfter(int type) {
            if (Kind.isLet(kind)) {
                return type;
            }
            return kind == Kind.READ && type == Type.LMOD ? Type.LIST : Type.INT;
        }
    }
}
