import java.util.Arrays;

/**
 * Types of expressions with classes: the most general ones, with what they want of classes.
 * The tables hold what was made by calls; the Typer types one expression over the Graph, and what
 * came out of the latest typing that had a type is kept in Told.
 */
public final class ClassInference {
    public static final int BAD = -1;
    public static final int NO = -2;
    public static final int FULL = -3;
    public static final int LACKS = -4;
    public static final int AMBIGUOUS = -5;

    private static final int NONE = -1;
    private static final int ARROW = 0;
    private static final int NO_SUCH_NODE = -100;

    private static final int MOST_CONSTRUCTORS = 8;
    private static final int MOST_PARTS = 2;
    private static final int MOST_VARIABLES = 8;
    private static final int MOST_TYPES = 60;
    private static final int MOST_TYPE_NODES = 16;
    private static final int MOST_CLASSES = 8;
    private static final int MOST_NAMES = 16;
    private static final int MOST_EXPRESSIONS = 120;
    private static final int MOST_EXPRESSION_NODES = 24;
    private static final int MOST_NODES_TOLD = 1000000000;
    /** Above any index that can be asked for, so that a size cut off here is never mistaken. */
    private static final long HUGE_SIZE = 1L << 40;

    // 24 nodes of an expression make 3252 nodes of types at most, however they are nested: a METHOD
    // or CONSTANT makes 16, an APPLY or LAMBDA 2, and a NAME of a LET those that its e's type holds.
    private static final int MOST_GRAPH_NODES = 4096;
    private static final int FIRST_GRAPH_NODES = 64;
    private static final int MOST_STEPS = 1000000;

    private static final int NAME = 0;
    private static final int LAMBDA = 1;
    private static final int APPLY = 2;
    private static final int LET = 3;
    private static final int METHOD = 4;
    private static final int CONSTANT = 5;

    private final TypeTable typeTable;
    private final ClassTable classTable;
    private final ExpressionTable expressionTable;
    private final Typer typer;
    private final Told told;

    public ClassInference() {
        typeTable = new TypeTable();
        classTable = new ClassTable();
        expressionTable = new ExpressionTable();
        typer = new Typer(typeTable, classTable, expressionTable);
        told = new Told();
    }

    public int constructor(int parts) {
        if (parts < 0 || parts > MOST_PARTS) {
            return BAD;
        }
        return typeTable.addConstructor(parts);
    }

    public int variable(int v) {
        if (v < 0 || v >= MOST_VARIABLES) {
            return BAD;
        }
        return typeTable.addVariable(v);
    }

    public int type(int constructor, int a, int b) {
        if (!typeTable.hasConstructor(constructor)) {
            return BAD;
        }
        int parts = typeTable.partsOf(constructor);
        if (parts > 0 && !typeTable.hasType(a) || parts > 1 && !typeTable.hasType(b)) {
            return BAD;
        }
        return typeTable.addBuilt(constructor, parts > 0 ? a : NONE, parts > 1 ? b : NONE);
    }

    public int class0(int above) {
        if (above != NONE && !classTable.hasClass(above)) {
            return BAD;
        }
        return classTable.addClass(above);
    }

    public int method(int class0, int type) {
        if (!classTable.hasClass(class0) || !typeTable.hasType(type)) {
            return BAD;
        }
        if (classTable.methodOf(class0) != NONE || !typeTable.holdsVariable(type, 0)) {
            return BAD;
        }
        classTable.setMethod(class0, type);
        return 1;
    }

    public int instance(int class0, int constructor, int first, int second) {
        if (!classTable.hasClass(class0) || !typeTable.hasConstructor(constructor)) {
            return BAD;
        }
        if (!classTable.areClasses(first) || !classTable.areClasses(second)) {
            return BAD;
        }
        int parts = typeTable.partsOf(constructor);
        return classTable.addInstance(class0, constructor, parts > 0 ? first : 0, parts > 1 ? second : 0);
    }

    public int expression(int kind, int a, int b, int c) {
        if (!mayStand(kind, a, b, c)) {
            return BAD;
        }
        return expressionTable.add(kind, a, b, c);
    }

    private boolean mayStand(int kind, int a, int b, int c) {
        switch (kind) {
            case NAME:
                return isName(a);
            case LAMBDA:
                return isName(a) && expressionTable.has(b);
            case APPLY:
                return expressionTable.has(a) && expressionTable.has(b);
            case LET:
                return isName(a) && expressionTable.has(b) && expressionTable.has(c);
            case METHOD:
                return classTable.hasClass(a) && classTable.methodOf(a) != NONE;
            case CONSTANT:
                return typeTable.hasType(a);
            default:
                return false;
        }
    }

    private static boolean isName(int x) {
        return x >= 0 && x < MOST_NAMES;
    }

    public int infer(int expression) {
        if (!expressionTable.has(expression)) {
            return BAD;
        }
        if (expressionTable.nodesOf(expression) > MOST_EXPRESSION_NODES) {
            return FULL;
        }
        int refusal = typer.run(expression);
        if (refusal != 0) {
            return refusal;
        }
        typer.tell(told);
        return told.nodes();
    }

    public int shape(int i) {
        return told.headAt(i);
    }

    public int wants() {
        return told.wantCount();
    }

    public int want(int i, int what) {
        if (i < 0 || i >= told.wantCount() || what < 0 || what > 1) {
            return BAD;
        }
        return told.wantAt(i, what);
    }

    public int passes() {
        return told.handedOver();
    }

    public int is(int class0, int type) {
        if (!classTable.hasClass(class0) || !typeTable.hasType(type) || typeTable.holdsVariables(type)) {
            return BAD;
        }
        return classTable.holdsAll(1 << class0, type, typeTable) ? 1 : 0;
    }

    public int under(int class0, int other) {
        if (!classTable.hasClass(class0) || !classTable.hasClass(other)) {
            return BAD;
        }
        return classTable.reaches(1 << class0, 1 << other) ? 1 : 0;
    }

    public int types() {
        return typeTable.count;
    }

    public int classes() {
        return classTable.count;
    }

    public int expressions() {
        return expressionTable.count;
    }

    /** The constructors, and the types, each kept once; its parts stand before a type. */
    private static final class TypeTable {
        private final int[] parts = new int[MOST_CONSTRUCTORS];
        private int constructorCount;
        /** A constructor, or -1 - v for variable v. */
        private final int[] head = new int[MOST_TYPES];
        private final int[] first = new int[MOST_TYPES];
        private final int[] second = new int[MOST_TYPES];
        private final int[] nodes = new int[MOST_TYPES];
        private final int[] variableBits = new int[MOST_TYPES];
        private int count;

        TypeTable() {
            parts[ARROW] = 2;
            constructorCount = 1;
        }

        boolean hasConstructor(int constructor) {
            return constructor >= 0 && constructor < constructorCount;
        }

        int partsOf(int constructor) {
            return parts[constructor];
        }

        boolean hasType(int type) {
            return type >= 0 && type < count;
        }

        boolean holdsVariables(int type) {
            return variableBits[type] != 0;
        }

        boolean holdsVariable(int type, int v) {
            return (variableBits[type] & 1 << v) != 0;
        }

        int addConstructor(int partCount) {
            if (constructorCount >= MOST_CONSTRUCTORS) {
                return FULL;
            }
            parts[constructorCount] = partCount;
            constructorCount++;
            return constructorCount - 1;
        }

        int addVariable(int v) {
            int known = search(-1 - v, NONE, NONE);
            if (known != NONE) {
                return known;
            }
            return keep(-1 - v, NONE, NONE, 1, 1 << v);
        }

        /** A constructor with types; a part that it has not is NONE. */
        int addBuilt(int constructor, int a, int b) {
            int known = search(constructor, a, b);
            if (known != NONE) {
                return known;
            }
            int size = 1 + (a == NONE ? 0 : nodes[a]) + (b == NONE ? 0 : nodes[b]);
            int bits = (a == NONE ? 0 : variableBits[a]) | (b == NONE ? 0 : variableBits[b]);
            if (size > MOST_TYPE_NODES) {
                return FULL;
            }
            return keep(constructor, a, b, size, bits);
        }

        private int search(int top, int a, int b) {
            for (int t = 0; t < count; t++) {
                if (head[t] == top && first[t] == a && second[t] == b) {
                    return t;
                }
            }
            return NONE;
        }

        private int keep(int top, int a, int b, int size, int bits) {
            if (count >= MOST_TYPES) {
                return FULL;
            }
            head[count] = top;
            first[count] = a;
            second[count] = b;
            nodes[count] = size;
            variableBits[count] = bits;
            count++;
            return count - 1;
        }
    }

    /** The classes with their methods and instances; sets of classes are bits. */
    private static final class ClassTable {
        private final int[] above = new int[MOST_CLASSES];
        /** The class itself and all that it is under. */
        private final int[] reach = new int[MOST_CLASSES];
        private final int[] methodType = new int[MOST_CLASSES];
        private int count;
        private final int[] instanceNumber = new int[MOST_CLASSES * MOST_CONSTRUCTORS];
        private final int[] wantedOfFirst = new int[MOST_CLASSES * MOST_CONSTRUCTORS];
        private final int[] wantedOfSecond = new int[MOST_CLASSES * MOST_CONSTRUCTORS];
        private int instanceCount;

        ClassTable() {
            Arrays.fill(instanceNumber, NONE);
        }

        boolean hasClass(int c) {
            return c >= 0 && c < count;
        }

        boolean areClasses(int bits) {
            return bits >>> count == 0;
        }

        int methodOf(int c) {
            return methodType[c];
        }

        void setMethod(int c, int type) {
            methodType[c] = type;
        }

        int addClass(int parent) {
            if (count >= MOST_CLASSES) {
                return FULL;
            }
            above[count] = parent;
            reach[count] = 1 << count | (parent == NONE ? 0 : reach[parent]);
            methodType[count] = NONE;
            count++;
            return count - 1;
        }

        int addInstance(int c, int constructor, int first, int second) {
            if (!fits(c, constructor, first, second)) {
                return NO;
            }
            int slot = slot(c, constructor);
            instanceNumber[slot] = instanceCount;
            wantedOfFirst[slot] = first;
            wantedOfSecond[slot] = second;
            instanceCount++;
            return instanceCount - 1;
        }

        private boolean fits(int c, int constructor, int first, int second) {
            if (instanceNumber[slot(c, constructor)] != NONE) {
                return false;
            }
            if (above[c] == NONE) {
                return true;
            }
            int upper = slot(above[c], constructor);
            return instanceNumber[upper] != NONE
                && reaches(first, wantedOfFirst[upper]) && reaches(second, wantedOfSecond[upper]);
        }

        private static int slot(int c, int constructor) {
            return c * MOST_CONSTRUCTORS + constructor;
        }

        /** Whether each of some classes is one that one of the given ones is under. */
        boolean reaches(int given, int sought) {
            int reached = 0;
            for (int c = 0; c < count; c++) {
                if ((given & 1 << c) != 0) {
                    reached |= reach[c];
                }
            }
            return (sought & ~reached) == 0;
        }

        /** Those of some classes under which no other one of them is. */
        int lowest(int bits) {
            int covered = 0;
            for (int c = 0; c < count; c++) {
                if ((bits & 1 << c) != 0) {
                    covered |= reach[c] & ~(1 << c);
                }
            }
            return bits & ~covered;
        }

        boolean haveInstances(int bits, int constructor) {
            for (int c = 0; c < count; c++) {
                if ((bits & 1 << c) != 0 && instanceNumber[slot(c, constructor)] == NONE) {
                    return false;
                }
            }
            return true;
        }

        /** What the instances that there are of some classes want of a constructor's part, by its row. */
        int joined(int[] wantedOfPart, int bits, int constructor) {
            int all = 0;
            for (int c = 0; c < count; c++) {
                if ((bits & 1 << c) != 0) {
                    all |= wantedOfPart[slot(c, constructor)];
                }
            }
            return all;
        }

        /** Whether a type without variables is in each of some classes. */
        boolean holdsAll(int bits, int type, TypeTable table) {
            return holdsAllDown(bits, type, table, 0);
        }

        // All classes at once: asked one by one, each part would be asked anew for each class.
        private boolean holdsAllDown(int bits, int type, TypeTable table, int depth) {
            int constructor = table.head[type];
            if (depth > MOST_TYPE_NODES || constructor < 0 || !haveInstances(bits, constructor)) {
                return false;
            }
            int ofFirst = joined(wantedOfFirst, bits, constructor);
            int ofSecond = joined(wantedOfSecond, bits, constructor);
            int first = table.first[type];
            int second = table.second[type];
            return (first == NONE || holdsAllDown(ofFirst, first, table, depth + 1))
                && (second == NONE || holdsAllDown(ofSecond, second, table, depth + 1));
        }
    }

    /** The expressions, each with its kind and what that has. */
    private static final class ExpressionTable {
        private final int[] kind = new int[MOST_EXPRESSIONS];
        private final int[] a = new int[MOST_EXPRESSIONS];
        private final int[] b = new int[MOST_EXPRESSIONS];
        private final int[] c = new int[MOST_EXPRESSIONS];
        private final int[] nodes = new int[MOST_EXPRESSIONS];
        private int count;

        boolean has(int expression) {
            return expression >= 0 && expression < count;
        }

        /** How many nodes it has, written out; one more than the most stands for all beyond. */
        int nodesOf(int expression) {
            return nodes[expression];
        }

        int add(int newKind, int newA, int newB, int newC) {
            if (count >= MOST_EXPRESSIONS) {
                return FULL;
            }
            kind[count] = newKind;
            a[count] = newA;
            b[count] = newB;
            c[count] = newC;
            nodes[count] = Math.min(1 + nodesOfParts(count), MOST_EXPRESSION_NODES + 1);
            count++;
            return count - 1;
        }

        private int nodesOfParts(int expression) {
            switch (kind[expression]) {
                case LAMBDA:
                    return nodes[b[expression]];
                case APPLY:
                    return nodes[a[expression]] + nodes[b[expression]];
                case LET:
                    return nodes[b[expression]] + nodes[c[expression]];
                default:
                    return 0;
            }
        }
    }

    /**
     * Types under way: nodes that are variables or constructors with parts, and that are moved
     * into one another when they have to be equal. Parts may be shared, and may run in a circle
     * until isCircular is asked. No walk recurses, for types get deeper than calls may.
     */
    private static final class Graph {
        private static final int VARIABLE = -1;
        private static final int MOVED = -2;

        /** A constructor, VARIABLE, or MOVED. */
        private int[] head = new int[FIRST_GRAPH_NODES];
        /** The first part, or where a node has moved to. */
        private int[] first = new int[FIRST_GRAPH_NODES];
        private int[] second = new int[FIRST_GRAPH_NODES];
        /** The classes that are wanted of a node, until a LET around it settles that. */
        private int[] asked = new int[FIRST_GRAPH_NODES];
        /** Of an open variable: the classes wanted of it that belong to its LET's name. */
        private int[] kept = new int[FIRST_GRAPH_NODES];
        /** 1 for a LET's open variables and for what holds them: what a copy does not share. */
        private int[] open = new int[FIRST_GRAPH_NODES];
        /** The latest settling that found the node in the type of a LAMBDA's name around. */
        private int[] bound = new int[FIRST_GRAPH_NODES];
        private int count;

        private int[] visitedIn = new int[FIRST_GRAPH_NODES];
        /** Belongs to the visited nodes; each walk says for what. */
        private int[] value = new int[FIRST_GRAPH_NODES];
        /** The visited nodes, parts before wholes and first parts before second ones. */
        private int[] order = new int[FIRST_GRAPH_NODES];
        private int ordered;
        private int visit;
        private int[] stack = new int[2 * FIRST_GRAPH_NODES + 4];
        private int height;
        private boolean clash;

        void clear() {
            count = 0;
            clash = false;
        }

        int newNode(int top, int a, int b) {
            if (count >= MOST_GRAPH_NODES) {
                clash = true;
                return 0;
            }
            if (count >= head.length) {
                grow(2 * head.length);
            }
            head[count] = top;
            first[count] = a;
            second[count] = b;
            asked[count] = 0;
            kept[count] = 0;
            open[count] = 0;
            bound[count] = 0;
            count++;
            return count - 1;
        }

        private void grow(int length) {
            head = Arrays.copyOf(head, length);
            first = Arrays.copyOf(first, length);
            second = Arrays.copyOf(second, length);
            asked = Arrays.copyOf(asked, length);
            kept = Arrays.copyOf(kept, length);
            open = Arrays.copyOf(open, length);
            bound = Arrays.copyOf(bound, length);
            visitedIn = Arrays.copyOf(visitedIn, length);
            value = Arrays.copyOf(value, length);
            order = Arrays.copyOf(order, length);
            stack = Arrays.copyOf(stack, 2 * length + 4);
        }

        boolean isVariable(int node) {
            return head[node] == VARIABLE;
        }

        /** Where a node has moved to in the end. */
        int settled(int node) {
            int at = node;
            for (int step = 0; head[at] == MOVED && step < count; step++) {
                at = first[at];
            }
            if (at != node) {
                first[node] = at;
            }
            return at;
        }

        int firstOf(int node) {
            return first[node] == NONE ? NONE : settled(first[node]);
        }

        int secondOf(int node) {
            return second[node] == NONE ? NONE : settled(second[node]);
        }

        void unify(int a, int b) {
            height = 0;
            pushPair(a, b);
            for (int step = 0; height > 1 && step < MOST_STEPS; step++) {
                height -= 2;
                unifyTops(settled(stack[height]), settled(stack[height + 1]));
            }
        }

        private void unifyTops(int a, int b) {
            if (a == b) {
                return;
            }
            if (isVariable(a)) {
                move(a, b);
            } else if (isVariable(b)) {
                move(b, a);
            } else if (head[a] != head[b]) {
                clash = true;
            } else {
                pushPair(second[a], second[b]);
                pushPair(first[a], first[b]);
                // Moved before the parts are looked at: so no pair comes twice, also in a circle.
                move(a, b);
            }
        }

        private void move(int node, int to) {
            head[node] = MOVED;
            first[node] = to;
        }

        private void pushPair(int a, int b) {
            if (a != NONE && b != NONE) {
                push(a);
                push(b);
            }
        }

        private void push(int item) {
            if (height < stack.length) {
                stack[height] = item;
                height++;
            }
        }

        void startWalk() {
            visit++;
            ordered = 0;
        }

        /** Puts what a node holds and has not been visited in this walk into the order. */
        void walk(int node) {
            height = 0;
            push(settled(node));
            for (int step = 0; height > 0 && step < MOST_STEPS; step++) {
                height--;
                int item = stack[height];
                if (item < 0) {
                    order[ordered] = -1 - item;
                    ordered++;
                    continue;
                }
                if (visitedIn[item] == visit) {
                    continue;
                }
                visitedIn[item] = visit;
                value[item] = item;
                push(-1 - item);
                if (second[item] != NONE) {
                    push(settled(second[item]));
                }
                if (first[item] != NONE) {
                    push(settled(first[item]));
                }
            }
        }

        /** A copy with fresh variables for the open ones, of which is wanted what belongs to these. */
        int copyOf(int node) {
            startWalk();
            walk(node);
            for (int i = 0; i < ordered; i++) {
                int from = order[i];
                if (open[from] == 1) {
                    // First made, then set: making a node may replace the arrays.
                    int copy = newNode(head[from], valueOf(first[from]), valueOf(second[from]));
                    value[from] = copy;
                    asked[copy] |= kept[from];
                }
            }
            return valueOf(node);
        }

        int valueOf(int node) {
            return node == NONE ? NONE : value[settled(node)];
        }

        /** Whether a type is a part of itself, which none may be. */
        boolean isCircular() {
            startWalk();
            for (int node = 0; node < count; node++) {
                walk(node);
            }
            for (int i = 0; i < ordered; i++) {
                value[order[i]] = i;
            }
            for (int i = 0; i < ordered; i++) {
                if (comesLater(firstOf(order[i]), i) || comesLater(secondOf(order[i]), i)) {
                    return true;
                }
            }
            return false;
        }

        private boolean comesLater(int part, int place) {
            return part != NONE && value[part] >= place;
        }
    }

    /** Types one expression from its parts up, and settles what is wanted LET by LET. */
    private static final class Typer {
        private static final int OF_LAMBDA = -1;

        private final TypeTable typeTable;
        private final ClassTable classTable;
        private final ExpressionTable expressionTable;
        private final Graph graph = new Graph();

        /** The LAMBDAs and LETs around, the innermost last: the name, its type's node, its wants. */
        private final int[] aroundName = new int[MOST_EXPRESSION_NODES];
        private final int[] aroundType = new int[MOST_EXPRESSION_NODES];
        private final int[] aroundWants = new int[MOST_EXPRESSION_NODES];
        private int around;

        private final int[] fresh = new int[MOST_VARIABLES];
        private int settling;
        private int whole;
        private int handed;
        private boolean lacks;
        private boolean ambiguous;

        Typer(TypeTable someTypes, ClassTable someClasses, ExpressionTable someExpressions) {
            typeTable = someTypes;
            classTable = someClasses;
            expressionTable = someExpressions;
        }

        /** NO, LACKS or AMBIGUOUS; 0 when there is a type. */
        int run(int expression) {
            graph.clear();
            around = 0;
            handed = 0;
            lacks = false;
            ambiguous = false;
            whole = typeOf(expression);
            settle(0, whole);
            if (graph.clash || graph.isCircular()) {
                return NO;
            }
            if (lacks) {
                return LACKS;
            }
            return ambiguous ? AMBIGUOUS : 0;
        }

        // The depth is at most that of the expression, which is refused beyond 24 nodes.
        private int typeOf(int expression) {
            int a = expressionTable.a[expression];
            int b = expressionTable.b[expression];
            switch (expressionTable.kind[expression]) {
                case LAMBDA:
                    return typeOfLambda(a, b);
                case APPLY:
                    return typeOfApply(a, b);
                case LET:
                    return typeOfLet(a, b, expressionTable.c[expression]);
                case METHOD:
                    return typeOfMethod(a);
                case CONSTANT:
                    return freshCopy(a);
                default:
                    return typeOfName(a);
            }
        }

        private int typeOfName(int x) {
            for (int i = around - 1; i >= 0; i--) {
                if (aroundName[i] != x) {
                    continue;
                }
                if (aroundWants[i] == OF_LAMBDA) {
                    return aroundType[i];
                }
                handed += aroundWants[i];
                return graph.copyOf(aroundType[i]);
            }
            graph.clash = true;
            return graph.newNode(Graph.VARIABLE, NONE, NONE);
        }

        private int typeOfLambda(int x, int body) {
            int from = graph.newNode(Graph.VARIABLE, NONE, NONE);
            enter(x, from, OF_LAMBDA);
            int to = typeOf(body);
            leave();
            return graph.newNode(ARROW, from, to);
        }

        private int typeOfApply(int function, int argument) {
            int arrow = typeOf(function);
            int from = typeOf(argument);
            int to = graph.newNode(Graph.VARIABLE, NONE, NONE);
            graph.unify(arrow, graph.newNode(ARROW, from, to));
            return to;
        }

        private int typeOfLet(int x, int named, int body) {
            int start = graph.count;
            int type = typeOf(named);
            enter(x, type, settle(start, type));
            int result = typeOf(body);
            leave();
            return result;
        }

        private int typeOfMethod(int c) {
            int copy = freshCopy(classTable.methodOf(c));
            // A method's type holds variable 0: without that it would have been refused.
            if (fresh[0] != NONE) {
                graph.asked[fresh[0]] |= 1 << c;
            }
            handed++;
            return copy;
        }

        private void enter(int x, int type, int wantCount) {
            if (around < MOST_EXPRESSION_NODES) {
                aroundName[around] = x;
                aroundType[around] = type;
                aroundWants[around] = wantCount;
                around++;
            }
        }

        private void leave() {
            if (around > 0) {
                around--;
            }
        }

        private int freshCopy(int type) {
            Arrays.fill(fresh, NONE);
            return writeOut(type);
        }

        // The depth is at most that of a type of the table, which has 16 nodes at most.
        private int writeOut(int type) {
            int top = typeTable.head[type];
            if (top < 0) {
                int v = -1 - top;
                fresh[v] = fresh[v] == NONE ? graph.newNode(Graph.VARIABLE, NONE, NONE) : fresh[v];
                return fresh[v];
            }
            int a = typeTable.first[type];
            int b = typeTable.second[type];
            int first = a == NONE ? NONE : writeOut(a);
            int second = b == NONE ? NONE : writeOut(b);
            return graph.newNode(top, first, second);
        }

        /**
         * Settles what is wanted of the nodes made since start, those of a LET's e with this type
         * (or of the whole expression): how many wants belong to its name.
         */
        private int settle(int start, int type) {
            settling++;
            markBound();
            markOpen(type);
            gatherAsked(start);
            int belonging = 0;
            for (int i = graph.ordered - 1; i >= 0; i--) {
                int node = graph.order[i];
                if (graph.value[node] == 0) {
                    continue;
                }
                if (graph.isVariable(node)) {
                    belonging += settleVariable(node, graph.value[node]);
                } else {
                    handDown(node, graph.value[node]);
                }
            }
            return belonging;
        }

        private void markBound() {
            graph.startWalk();
            for (int i = 0; i < around; i++) {
                if (aroundWants[i] == OF_LAMBDA) {
                    graph.walk(aroundType[i]);
                }
            }
            for (int i = 0; i < graph.ordered; i++) {
                graph.bound[graph.order[i]] = settling;
            }
        }

        private void markOpen(int type) {
            graph.startWalk();
            graph.walk(type);
            for (int i = 0; i < graph.ordered; i++) {
                int node = graph.order[i];
                boolean isOpen = graph.isVariable(node)
                    ? graph.bound[node] != settling
                    : holdsOpen(graph.firstOf(node)) || holdsOpen(graph.secondOf(node));
                graph.open[node] = isOpen ? 1 : 0;
            }
        }

        private boolean holdsOpen(int part) {
            return part != NONE && graph.open[part] == 1;
        }

        /** Walks what is asked for since start, with the classes as values, and asks no more for it. */
        private void gatherAsked(int start) {
            graph.startWalk();
            for (int node = start; node < graph.count; node++) {
                if (graph.asked[node] != 0) {
                    graph.walk(node);
                }
            }
            for (int i = 0; i < graph.ordered; i++) {
                graph.value[graph.order[i]] = 0;
            }
            for (int node = start; node < graph.count; node++) {
                if (graph.asked[node] != 0) {
                    graph.value[graph.settled(node)] |= graph.asked[node];
                    graph.asked[node] = 0;
                }
            }
        }

        private int settleVariable(int node, int bits) {
            if (graph.open[node] == 1) {
                graph.kept[node] = classTable.lowest(bits);
                return Integer.bitCount(graph.kept[node]);
            }
            if (graph.bound[node] == settling) {
                // Wanted outside. If the node is older than the e of a LET around, that LET does not
                // see it; nor need it, for the variable is then bound around that LET too.
                graph.asked[node] |= bits;
            } else {
                ambiguous = true;
            }
            return 0;
        }

        private void handDown(int node, int bits) {
            int constructor = graph.head[node];
            if (!classTable.haveInstances(bits, constructor)) {
                lacks = true;
            }
            int first = graph.firstOf(node);
            int second = graph.secondOf(node);
            if (first != NONE) {
                graph.value[first] |= classTable.joined(classTable.wantedOfFirst, bits, constructor);
            }
            if (second != NONE) {
                graph.value[second] |= classTable.joined(classTable.wantedOfSecond, bits, constructor);
            }
        }

        void tell(Told told) {
            graph.startWalk();
            graph.walk(whole);
            told.restart(graph.ordered, handed);
            for (int i = 0; i < graph.ordered; i++) {
                int node = graph.order[i];
                if (graph.isVariable(node)) {
                    told.addVariable(graph.kept[node]);
                } else {
                    int first = graph.valueOf(graph.first[node]);
                    int second = graph.valueOf(graph.second[node]);
                    told.addBuilt(graph.head[node], first, second);
                }
                graph.value[node] = i;
            }
        }
    }

    /** What is told of the latest expression that had a type: each part stands before its wholes. */
    private static final class Told {
        private int[] head = new int[0];
        private int[] first = new int[0];
        private int[] second = new int[0];
        /** Nodes, written out: HUGE_SIZE at most. */
        private long[] size = new long[0];
        private int count;
        /** The classes wanted of each variable. */
        private int[] classes = new int[0];
        private int variables;
        private int total;
        private int handed;

        /** Makes room for another type with so many nodes, each once. */
        void restart(int room, int handedNow) {
            if (head.length < room) {
                head = new int[2 * room];
                first = new int[2 * room];
                second = new int[2 * room];
                size = new long[2 * room];
                classes = new int[2 * room];
            }
            count = 0;
            variables = 0;
            total = 0;
            handed = handedNow;
        }

        // Variables come in the order in which they stand first, for the walk takes first parts first.
        void addVariable(int bits) {
            if (variables < classes.length) {
                classes[variables] = bits;
                variables++;
                total += Integer.bitCount(bits);
                addBuilt(-variables, NONE, NONE);
            }
        }

        void addBuilt(int top, int a, int b) {
            if (count < head.length) {
                head[count] = top;
                first[count] = a;
                second[count] = b;
                size[count] = Math.min(1 + sizeOf(a) + sizeOf(b), HUGE_SIZE);
                count++;
            }
        }

        private long sizeOf(int node) {
            return node == NONE ? 0 : size[node];
        }

        int nodes() {
            return count == 0 ? 0 : (int) Math.min(size[count - 1], (long) MOST_NODES_TOLD);
        }

        int headAt(int i) {
            if (i < 0 || count == 0 || i >= size[count - 1]) {
                return NO_SUCH_NODE;
            }
            int node = count - 1;
            int left = i;
            for (int step = 0; left > 0 && step < count; step++) {
                left--;
                long before = sizeOf(first[node]);
                if (left < before) {
                    node = first[node];
                } else {
                    left -= (int) before;
                    node = second[node];
                }
            }
            return head[node];
        }

        int wantCount() {
            return total;
        }

        int handedOver() {
            return handed;
        }

        /** Want i, its class (0) or its variable (1). */
        int wantAt(int i, int what) {
            int left = i;
            for (int v = 0; v < variables; v++) {
                for (int c = 0; c < MOST_CLASSES; c++) {
                    if ((classes[v] & 1 << c) == 0) {
                        continue;
                    }
                    if (left == 0) {
                        return what == 0 ? c : v;
                    }
                    left--;
                }
            }
            return BAD;
        }
    }
}
