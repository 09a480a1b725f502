/** One method for each promise of the document: ordinary calls, the edges, and wrong inputs. */
public final class PromiseTest {
    private static final int BAD = -1;
    private static final int NO = -2;
    private static final int FULL = -3;
    private static final int LACKS = -4;
    private static final int AMBIGUOUS = -5;

    private static final int NAME = 0;
    private static final int LAMBDA = 1;
    private static final int APPLY = 2;
    private static final int LET = 3;
    private static final int METHOD = 4;
    private static final int CONSTANT = 5;

    private static final int[] FAR = {Integer.MIN_VALUE, -1000000, -2, 1000, 1 << 30, Integer.MAX_VALUE};

    private static int wrong = 0;

    private static void due(String what, int got, int want) {
        if (got != want) {
            wrong++;
            System.out.println(what + " answered " + got + ", due is " + want);
        }
    }

    /** What is told of the latest type: its nodes, then its wants as class and variable. */
    private static void told(String what, ClassInference x, int[] shape, int[] wants, int passes) {
        for (int i = 0; i < shape.length; i++) {
            due(what + ": shape(" + i + ")", x.shape(i), shape[i]);
        }
        due(what + ": shape at the end", x.shape(shape.length), -100);
        due(what + ": wants()", x.wants(), wants.length / 2);
        for (int i = 0; i < wants.length; i++) {
            due(what + ": want(" + i / 2 + ", " + i % 2 + ")", x.want(i / 2, i % 2), wants[i]);
        }
        due(what + ": want at the end", x.want(wants.length / 2, 0), BAD);
        due(what + ": passes()", x.passes(), passes);
    }

    private static int name(ClassInference x, int n) {
        return x.expression(NAME, n, 0, 0);
    }

    private static int lambda(ClassInference x, int n, int e) {
        return x.expression(LAMBDA, n, e, 0);
    }

    private static int apply(ClassInference x, int e, int f) {
        return x.expression(APPLY, e, f, 0);
    }

    private static int let(ClassInference x, int n, int e, int f) {
        return x.expression(LET, n, e, f);
    }

    private static int methodOf(ClassInference x, int c) {
        return x.expression(METHOD, c, 0, 0);
    }

    private static int constant(ClassInference x, int t) {
        return x.expression(CONSTANT, t, 0, 0);
    }

    /**
     * Constructors INT = 1 (none), LIST = 2 (one), PAIR = 3 (two parts). Types V0 = 0, V1 = 1, INT = 2,
     * LIST V0 = 3, PAIR V0 V1 = 4, and V0 -> INT = 5, V0 -> V0 = 6, INT -> V0 = 7. Classes EQ = 0, ORD = 1
     * under it, SHOW = 2, with methods V0 -> INT, V0 -> V0 and V0 -> INT.
     */
    private static ClassInference world() {
        ClassInference x = new ClassInference();
        x.constructor(0);
        x.constructor(1);
        x.constructor(2);
        x.variable(0);
        x.variable(1);
        x.type(1, 0, 0);
        x.type(2, 0, 0);
        x.type(3, 0, 1);
        x.type(0, 0, 2);
        x.type(0, 0, 0);
        x.type(0, 2, 0);
        x.class0(-1);
        x.class0(0);
        x.class0(-1);
        x.method(0, 5);
        x.method(1, 6);
        x.method(2, 5);
        return x;
    }

    private static void promise1NewObject() {
        ClassInference x = new ClassInference();
        due("1 types", x.types(), 0);
        due("1 classes", x.classes(), 0);
        due("1 expressions", x.expressions(), 0);
        due("1 only the arrow", x.type(1, 0, 0), BAD);
        due("1 first constructor", x.constructor(0), 1);
        due("1 variable", x.variable(3), 0);
        due("1 the arrow has two parts", x.type(0, 0, 0), 1);
        due("1 the arrow's second part", x.type(0, 0, 2), BAD);
        ClassInference other = new ClassInference();
        due("1 nothing is shared", other.types(), 0);
        told("1", other, new int[0], new int[0], 0);
    }

    private static void promise2Constructor() {
        ClassInference x = new ClassInference();
        due("2 constructor(-1)", x.constructor(-1), BAD);
        due("2 constructor(3)", x.constructor(3), BAD);
        for (int i = 1; i < 8; i++) {
            due("2 number", x.constructor(i % 3), i);
        }
        due("2 an eighth beside the arrow", x.constructor(0), FULL);
        due("2 bad and full", x.constructor(3), BAD);
        x.variable(0);
        due("2 one part", x.type(1, 0, 77), 1);
        due("2 two parts", x.type(2, 0, 77), BAD);
        due("2 no parts", x.type(3, 77, 77), 2);
        for (int far : FAR) {
            due("2 far", x.constructor(far), BAD);
        }
    }

    private static void promise3Variable() {
        ClassInference x = new ClassInference();
        due("3 variable(7)", x.variable(7), 0);
        due("3 variable(0)", x.variable(0), 1);
        due("3 kept once", x.variable(7), 0);
        due("3 variable(8)", x.variable(8), BAD);
        due("3 variable(-1)", x.variable(-1), BAD);
        for (int far : FAR) {
            due("3 far", x.variable(far), BAD);
        }
        fillTypes(x);
        due("3 full", x.variable(1), FULL);
        due("3 known when full", x.variable(0), 1);
        due("3 bad when full", x.variable(9), BAD);
    }

    private static void fillTypes(ClassInference x) {
        for (int a = 0; a < 60 && x.types() < 60; a++) {
            for (int b = 0; b <= a && x.types() < 60; b++) {
                x.type(0, a, b);
            }
        }
    }

    private static void promise4Type() {
        ClassInference x = new ClassInference();
        x.constructor(1);
        x.constructor(0);
        due("4 no types yet", x.type(1, 0, 0), BAD);
        due("4 without parts", x.type(2, -5, 99), 0);
        due("4 kept once", x.type(2, 0, 0), 0);
        due("4 no constructor", x.type(3, 0, 0), BAD);
        due("4 constructor -1", x.type(-1, 0, 0), BAD);
        due("4 first part", x.type(1, 1, 0), BAD);
        due("4 second part not looked at", x.type(1, 0, -9), 1);
        due("4 kept once whatever the second is", x.type(1, 0, 5), 1);
        due("4 second part", x.type(0, 0, 2), BAD);
        due("4 arrow", x.type(0, 0, 1), 2);
        due("4 arrow the other way", x.type(0, 1, 0), 3);
        for (int far : FAR) {
            due("4 far constructor", x.type(far, 0, 0), BAD);
            due("4 far part", x.type(0, far, 0), BAD);
            due("4 far second", x.type(0, 0, far), BAD);
        }
        int deep = 1;
        for (int nodes = 3; nodes <= 16; nodes++) {
            deep = x.type(1, deep, 0);
        }
        due("4 sixteen nodes", deep, 17);
        due("4 seventeen nodes", x.type(1, deep, 0), FULL);
        due("4 sixteen nodes as a second part", x.type(0, 0, deep), FULL);
        due("4 types left as they are", x.types(), 18);
        fillTypes(x);
        due("4 sixty types", x.types(), 60);
        x.constructor(0);
        due("4 full", x.type(3, 0, 0), FULL);
        due("4 known when full", x.type(0, 1, 0), 3);
        due("4 bad when full", x.type(4, 0, 0), BAD);
    }

    private static void promise5Class() {
        ClassInference x = new ClassInference();
        due("5 above none that is", x.class0(0), BAD);
        due("5 class0(-2)", x.class0(-2), BAD);
        for (int i = 0; i < 8; i++) {
            due("5 itself above", x.class0(i), BAD);
            due("5 number", x.class0(i - 1), i);
        }
        due("5 full", x.class0(-1), FULL);
        due("5 bad and full", x.class0(8), BAD);
        for (int far : FAR) {
            due("5 far", x.class0(far), BAD);
        }
        due("5 all above", x.under(7, 0), 1);
    }

    private static void promise6Method() {
        ClassInference x = new ClassInference();
        x.variable(1);
        x.variable(0);
        x.type(0, 0, 0);
        x.type(0, 0, 1);
        due("6 no class", x.method(0, 1), BAD);
        x.class0(-1);
        x.class0(-1);
        due("6 variable 0 is not in it", x.method(0, 2), BAD);
        due("6 variable 1 alone", x.method(0, 0), BAD);
        due("6 no type", x.method(0, 4), BAD);
        due("6 type -1", x.method(0, -1), BAD);
        due("6 deep in it", x.method(0, 3), 1);
        due("6 has one", x.method(0, 1), BAD);
        due("6 variable 0 itself", x.method(1, 1), 1);
        due("6 no such class", x.method(2, 1), BAD);
        for (int far : FAR) {
            due("6 far class", x.method(far, 1), BAD);
            due("6 far type", x.method(1, far), BAD);
        }
        due("6 the first one stays", x.infer(methodOf(x, 0)), 3);
    }

    private static void promise7Instance() {
        ClassInference x = new ClassInference();
        x.constructor(0);
        x.constructor(1);
        due("7 no class", x.instance(0, 0, 0, 0), BAD);
        x.class0(-1);
        x.class0(0);
        x.class0(1);
        x.class0(-1);
        due("7 no constructor", x.instance(0, 3, 0, 0), BAD);
        due("7 constructor -1", x.instance(0, -1, 0, 0), BAD);
        due("7 bit of no class", x.instance(0, 2, 16, 0), BAD);
        due("7 bit of no class for no part", x.instance(0, 1, 0, 16), BAD);
        due("7 all bits", x.instance(0, 1, -1, 0), BAD);
        due("7 highest bit", x.instance(0, 1, 0, Integer.MIN_VALUE), BAD);
        due("7 none above yet", x.instance(1, 1, 0, 0), NO);
        due("7 first", x.instance(0, 1, 15, 15), 0);
        due("7 again", x.instance(0, 1, 0, 0), NO);
        due("7 bits for parts that it has not", x.instance(1, 1, 0, 0), 1);
        due("7 one part", x.instance(0, 2, 1, 15), 2);
        due("7 wants less than above", x.instance(1, 2, 0, 0), NO);
        due("7 wants another one", x.instance(1, 2, 8, 0), NO);
        due("7 wants one under it", x.instance(1, 2, 4, 0), 3);
        due("7 wants one above it", x.instance(2, 2, 2, 0), NO);
        due("7 wants the same", x.instance(2, 2, 4, 0), 4);
        due("7 two parts", x.instance(0, 0, 1, 8), 5);
        due("7 second part less", x.instance(1, 0, 1, 1), NO);
        due("7 both parts", x.instance(1, 0, 2, 9), 6);
        due("7 far above is not enough", x.instance(2, 1, 0, 0), 7);
        due("7 bad before no", x.instance(0, 1, 16, 0), BAD);
        for (int far : FAR) {
            due("7 far class", x.instance(far, 1, 0, 0), BAD);
            due("7 far constructor", x.instance(3, far, 0, 0), BAD);
            due("7 far bits", x.instance(3, 1, far, 0), BAD);
            due("7 far second bits", x.instance(3, 1, 0, far), BAD);
        }
        due("7 none of these was made", x.instance(3, 1, 0, 0), 8);
    }

    private static void promise8Expression() {
        ClassInference x = world();
        x.class0(-1);
        due("8 name -1", x.expression(NAME, -1, 0, 0), BAD);
        due("8 name 16", x.expression(NAME, 16, 0, 0), BAD);
        due("8 lambda of nothing", x.expression(LAMBDA, 0, 0, 0), BAD);
        due("8 apply of nothing", x.expression(APPLY, 0, 0, 0), BAD);
        due("8 let of nothing", x.expression(LET, 0, 0, 0), BAD);
        due("8 kind -1", x.expression(-1, 0, 0, 0), BAD);
        due("8 kind 6", x.expression(6, 0, 0, 0), BAD);
        due("8 method without one", x.expression(METHOD, 3, 0, 0), BAD);
        due("8 method of no class", x.expression(METHOD, 4, 0, 0), BAD);
        due("8 method -1", x.expression(METHOD, -1, 0, 0), BAD);
        due("8 constant of no type", x.expression(CONSTANT, 8, 0, 0), BAD);
        due("8 constant -1", x.expression(CONSTANT, -1, 0, 0), BAD);
        due("8 name 15", x.expression(NAME, 15, -7, 99), 0);
        due("8 not kept once", x.expression(NAME, 15, -7, 99), 1);
        due("8 lambda name", x.expression(LAMBDA, 16, 0, 0), BAD);
        due("8 lambda", x.expression(LAMBDA, 15, 1, -1), 2);
        due("8 lambda of itself", x.expression(LAMBDA, 0, 3, 0), BAD);
        due("8 apply", x.expression(APPLY, 2, 0, -1), 3);
        due("8 apply first", x.expression(APPLY, 4, 0, 0), BAD);
        due("8 apply second", x.expression(APPLY, 0, 4, 0), BAD);
        due("8 let", x.expression(LET, 0, 1, 3), 4);
        due("8 let name", x.expression(LET, -1, 1, 3), BAD);
        due("8 let e", x.expression(LET, 0, 5, 3), BAD);
        due("8 let f", x.expression(LET, 0, 1, 5), BAD);
        due("8 method", x.expression(METHOD, 2, -1, -1), 5);
        due("8 constant", x.expression(CONSTANT, 7, -1, -1), 6);
        for (int far : FAR) {
            due("8 far kind", x.expression(far, 0, 0, 0), BAD);
            for (int kind = 0; kind < 6; kind++) {
                due("8 far a", x.expression(kind, far, 0, 0), BAD);
            }
            due("8 far b", x.expression(LAMBDA, 0, far, 0), BAD);
            due("8 far b", x.expression(APPLY, 0, far, 0), BAD);
            due("8 far b", x.expression(LET, 0, far, 0), BAD);
            due("8 far c", x.expression(LET, 0, 0, far), BAD);
        }
        for (int i = 7; i < 120; i++) {
            due("8 number", x.expression(LAMBDA, i % 16, i - 1, 0), i);
        }
        due("8 full", x.expression(NAME, 0, 0, 0), FULL);
        due("8 bad when full", x.expression(NAME, 16, 0, 0), BAD);
    }

    private static void promise9Types() {
        ClassInference x = world();
        due("9 none such", x.infer(0), BAD);
        due("9 infer(-1)", x.infer(-1), BAD);
        int y = name(x, 0);
        due("9 a name with nothing around it", x.infer(y), NO);
        int identity = lambda(x, 0, y);
        due("9 identity", x.infer(identity), 3);
        due("9 self", x.infer(lambda(x, 0, apply(x, y, y))), NO);
        int one = constant(x, 2);
        due("9 no arrow", x.infer(apply(x, one, one)), NO);
        due("9 two constructors", x.infer(apply(x, constant(x, 7), constant(x, 3))), NO);
        due("9 let makes copies", x.infer(let(x, 0, identity, apply(x, y, y))), 3);
        due("9 lambda makes none", x.infer(apply(x, lambda(x, 0, apply(x, y, y)), identity)), NO);
        due("9 let's x is not in its e", x.infer(let(x, 0, y, one)), NO);
        due("9 an unused e has to have a type", x.infer(let(x, 1, apply(x, one, one), one)), NO);
        int z = name(x, 1);
        due("9 what a lambda around has is not open",
            x.infer(lambda(x, 0, let(x, 1, y, apply(x, z, z)))), NO);
        due("9 the innermost counts", x.infer(lambda(x, 0, lambda(x, 0, apply(x, y, one)))), 7);
        told("9 innermost", x, new int[] {0, -1, 0, 0, 1, -2, -2}, new int[0], 0);
        due("9 let hides lambda", x.infer(lambda(x, 0, let(x, 0, one, y))), 3);
        told("9 let hides lambda", x, new int[] {0, -1, 1}, new int[0], 0);
        due("9 lambda hides let", x.infer(let(x, 0, one, lambda(x, 0, y))), 3);
        told("9 lambda hides let", x, new int[] {0, -1, -1}, new int[0], 0);
        for (int far : FAR) {
            due("9 far", x.infer(far), BAD);
        }
    }

    private static void promise9TooLarge() {
        ClassInference x = new ClassInference();
        int e = name(x, 0);
        for (int i = 0; i < 23; i++) {
            e = lambda(x, i % 2, e);
        }
        due("9 twenty-four nodes", x.infer(e), 47);
        due("9 twenty-five nodes", x.infer(lambda(x, 0, e)), FULL);
        int half = name(x, 0);
        for (int i = 0; i < 40; i++) {
            half = apply(x, half, half);
        }
        due("9 very many nodes", x.infer(half), FULL);
        due("9 a part of it twice", x.infer(apply(x, e, e)), FULL);
        due("9 the latest stays", x.shape(46), -23);
    }

    private static void promise9Wants() {
        ClassInference x = world();
        int eq = methodOf(x, 0);
        int ord = methodOf(x, 1);
        int one = constant(x, 2);
        int y = name(x, 0);
        due("9 lacks", x.infer(apply(x, eq, one)), LACKS);
        due("9 no before lacks", x.infer(apply(x, apply(x, eq, one), one)), NO);
        x.instance(0, 1, 0, 0);
        due("9 has it now", x.infer(apply(x, eq, one)), 1);
        due("9 lacks the one under it", x.infer(apply(x, ord, one)), LACKS);
        due("9 of a list", x.infer(apply(x, eq, constant(x, 3))), LACKS);
        x.instance(0, 2, 1, 0);
        due("9 can't be told", x.infer(apply(x, eq, constant(x, 3))), AMBIGUOUS);
        int bad = apply(x, apply(x, constant(x, x.type(0, 0, x.type(0, 1, 0))),
            apply(x, eq, constant(x, 3))), apply(x, ord, one));
        due("9 lacks before can't be told", x.infer(bad), LACKS);
        due("9 an e that is not used lacks", x.infer(let(x, 1, apply(x, ord, one), one)), LACKS);
        due("9 an e that is not used can't be told", x.infer(let(x, 1, apply(x, eq, constant(x, 0)), one)), AMBIGUOUS);
        due("9 wanted of a variable that is not open, told later",
            x.infer(apply(x, lambda(x, 0, let(x, 1, apply(x, eq, y), one)), one)), 1);
        due("9 not open, lacks it later",
            x.infer(apply(x, lambda(x, 0, let(x, 1, apply(x, ord, y), one)), one)), LACKS);
        due("9 not open, can't be told later",
            x.infer(apply(x, lambda(x, 0, let(x, 1, apply(x, eq, y), one)), constant(x, 0))), AMBIGUOUS);
        due("9 a copy lacks", x.infer(let(x, 1, ord, apply(x, name(x, 1), one))), LACKS);
        due("9 a lambda in an e is not around",
            x.infer(let(x, 1, lambda(x, 0, let(x, 2, apply(x, eq, y), one)), one)), 1);
        due("9 an inner let's want can't be told in the outer one",
            x.infer(let(x, 1, apply(x, lambda(x, 0, let(x, 2, apply(x, eq, y), one)), constant(x, 0)), one)), AMBIGUOUS);
    }

    private static void promise10Shape() {
        ClassInference x = world();
        due("10 none", x.shape(0), -100);
        int swap = lambda(x, 3, lambda(x, 4, apply(x, name(x, 4), name(x, 3))));
        due("10 infer", x.infer(swap), 7);
        told("10 swap", x, new int[] {0, -1, 0, 0, -1, -2, -2}, new int[0], 0);
        due("10 shape(-1)", x.shape(-1), -100);
        for (int far : FAR) {
            due("10 far", x.shape(far), -100);
        }
        due("10 a constant", x.infer(constant(x, x.type(3, 1, x.type(2, 4, 0)))), 6);
        told("10 by where it stands first", x, new int[] {3, -1, 2, 3, -2, -1}, new int[0], 0);
        due("10 no type", x.infer(name(x, 0)), NO);
        due("10 too far", x.infer(1000), BAD);
        told("10 the latest with nodes", x, new int[] {3, -1, 2, 3, -2, -1}, new int[0], 0);
    }

    private static void promise11And12Wants() {
        ClassInference x = world();
        int eq = methodOf(x, 0);
        int ord = methodOf(x, 1);
        int show = methodOf(x, 2);
        due("11 none", x.wants(), 0);
        due("12 none", x.want(0, 0), BAD);
        int pick = constant(x, x.type(0, 2, x.type(0, 2, 2)));
        int y = name(x, 0);
        int z = name(x, 1);
        int both = lambda(x, 0, lambda(x, 1, apply(x, apply(x, pick, apply(x, show, z)), apply(x, eq, y))));
        due("11 two variables", x.infer(both), 5);
        told("12 by their variables", x, new int[] {0, -1, 0, -2, 1}, new int[] {0, 0, 2, 1}, 2);
        int two = lambda(x, 0, apply(x, apply(x, pick, apply(x, show, y)), apply(x, eq, apply(x, ord, y))));
        due("11 three on one variable", x.infer(two), 3);
        told("12 then classes; one above goes", x, new int[] {0, -1, 1}, new int[] {1, 0, 2, 0}, 3);
        int twice = lambda(x, 0, apply(x, apply(x, pick, apply(x, show, y)), apply(x, show, y)));
        due("11 of equal ones one", x.infer(twice), 3);
        told("11 of equal ones one", x, new int[] {0, -1, 1}, new int[] {2, 0}, 2);
        x.instance(2, 3, 1, 4);
        int pair = constant(x, x.type(0, 0, x.type(0, 1, 4)));
        int made = lambda(x, 0, lambda(x, 1, apply(x, show, apply(x, apply(x, pair, y), z))));
        due("11 by an instance", x.infer(made), 5);
        told("11 by an instance", x, new int[] {0, -1, 0, -2, 1}, new int[] {0, 0, 2, 1}, 1);
        x.instance(2, 2, 5, 0);
        x.instance(0, 2, 1, 0);
        int lists = constant(x, x.type(0, 0, x.type(2, 3, 0)));
        due("11 by several instances", x.infer(lambda(x, 0, apply(x, show, apply(x, lists, y)))), 3);
        told("11 by several instances", x, new int[] {0, -1, 1}, new int[] {0, 0, 2, 0}, 1);
        due("11 by an instance again", x.infer(made), 5);
        due("12 what -1", x.want(0, -1), BAD);
        due("12 what 2", x.want(0, 2), BAD);
        due("12 want(-1)", x.want(-1, 0), BAD);
        for (int far : FAR) {
            due("12 far", x.want(far, 0), BAD);
            due("12 far", x.want(far, 1), BAD);
            due("12 far what", x.want(0, far), BAD);
        }
        due("11 lacks", x.infer(apply(x, show, constant(x, 2))), LACKS);
        told("11 the latest with nodes", x, new int[] {0, -1, 0, -2, 1}, new int[] {0, 0, 2, 1}, 1);
    }

    private static void promise13Passes() {
        ClassInference x = world();
        int eq = methodOf(x, 0);
        int ord = methodOf(x, 1);
        int show = methodOf(x, 2);
        int one = constant(x, 2);
        int y = name(x, 0);
        int f = name(x, 1);
        for (int c = 0; c < 3; c++) {
            x.instance(c, 1, 0, 0);
        }
        due("13 a method", x.infer(apply(x, eq, one)), 1);
        due("13 a method: passes", x.passes(), 1);
        int g = lambda(x, 0, apply(x, eq, apply(x, ord, y)));
        due("13 one want stays", x.infer(let(x, 1, g, apply(x, f, one))), 1);
        due("13 two methods and one name with one want", x.passes(), 3);
        due("13 used twice", x.infer(let(x, 1, g, apply(x, f, apply(x, f, one)))), 1);
        due("13 each name", x.passes(), 4);
        due("13 not used", x.infer(let(x, 1, g, one)), 1);
        due("13 not used: methods in it", x.passes(), 2);
        int h = lambda(x, 0, apply(x, show, apply(x, f, y)));
        due("13 a name in an e that is not used", x.infer(let(x, 1, ord, let(x, 2, h, one))), 1);
        due("13 a name in an e that is not used: passes", x.passes(), 3);
        int k = lambda(x, 0, let(x, 1, apply(x, eq, y), f));
        due("13 a name with a want that is not open", x.infer(k), 3);
        told("13 wanted outside once", x, new int[] {0, -1, 1}, new int[] {0, 0}, 1);
        int twice = apply(x, apply(x, constant(x, x.type(0, 2, x.type(0, 2, 2))), f), f);
        due("13 used twice, wanted once", x.infer(lambda(x, 0, let(x, 1, apply(x, eq, y), twice))), 3);
        told("13 used twice, wanted once", x, new int[] {0, -1, 1}, new int[] {0, 0}, 1);
        int shows = let(x, 2, apply(x, show, y), one);
        due("13 two lets want of one variable", x.infer(lambda(x, 0, let(x, 1, apply(x, eq, y), shows))), 3);
        told("13 two lets want of one variable", x, new int[] {0, -1, 1}, new int[] {0, 0, 2, 0}, 2);
        due("13 lambda's name", x.infer(lambda(x, 0, y)), 3);
        due("13 lambda's name: passes", x.passes(), 0);
        int d = lambda(x, 0, apply(x, apply(x, constant(x, x.type(0, 2, x.type(0, 2, 2))), apply(x, eq, y)), apply(x, show, y)));
        due("13 two wants", x.infer(let(x, 1, d, f)), 3);
        told("13 two wants", x, new int[] {0, -1, 1}, new int[] {0, 0, 2, 0}, 4);
    }

    private static void promise14Is() {
        ClassInference x = world();
        int list = x.type(2, 2, 0);
        int lists = x.type(2, list, 0);
        int pair = x.type(3, 2, list);
        int arrow = x.type(0, 2, 2);
        due("14 no instance", x.is(0, 2), 0);
        x.instance(0, 1, 0, 0);
        x.instance(0, 2, 1, 0);
        x.instance(2, 3, 0, 1);
        due("14 without parts", x.is(0, 2), 1);
        due("14 list", x.is(0, list), 1);
        due("14 list of lists", x.is(0, lists), 1);
        due("14 not the one under it", x.is(1, 2), 0);
        due("14 pair", x.is(2, pair), 1);
        due("14 pair with a second part that is not", x.is(2, x.type(3, list, pair)), 0);
        due("14 arrow", x.is(0, arrow), 0);
        x.instance(2, 2, 4, 0);
        due("14 a part that is not", x.is(2, list), 0);
        due("14 variables", x.is(0, 0), BAD);
        due("14 variables in it", x.is(0, 3), BAD);
        due("14 no class", x.is(3, 2), BAD);
        due("14 class -1", x.is(-1, 2), BAD);
        due("14 no type", x.is(0, 99), BAD);
        due("14 type -1", x.is(0, -1), BAD);
        for (int far : FAR) {
            due("14 far", x.is(far, 2), BAD);
            due("14 far", x.is(0, far), BAD);
        }
        wantsOfSeveralInstancesJoin();
        allClassesOfADeepType();
    }

    /** Class 0 wants 1 and 2 of parts; 1 wants 1 of parts, 2 nothing: the wants of both count below. */
    private static void wantsOfSeveralInstancesJoin() {
        ClassInference x = new ClassInference();
        x.constructor(2);
        x.constructor(0);
        x.constructor(0);
        for (int c = 0; c < 3; c++) {
            x.class0(-1);
        }
        x.instance(0, 1, 6, 6);
        x.instance(1, 1, 2, 2);
        x.instance(2, 1, 0, 0);
        x.instance(1, 2, 0, 0);
        int good = x.type(2, 0, 0);
        int bad = x.type(3, 0, 0);
        int goods = x.type(1, good, good);
        due("14 all joined", x.is(0, x.type(1, goods, goods)), 1);
        due("14 first of first", x.is(0, x.type(1, x.type(1, bad, good), goods)), 0);
        due("14 second of first", x.is(0, x.type(1, x.type(1, good, bad), goods)), 0);
        due("14 first of second", x.is(0, x.type(1, goods, x.type(1, bad, good))), 0);
        due("14 second of second", x.is(0, x.type(1, goods, x.type(1, good, bad))), 0);
    }

    private static void allClassesOfADeepType() {
        ClassInference x = new ClassInference();
        x.constructor(1);
        x.constructor(0);
        for (int c = 0; c < 8; c++) {
            x.class0(-1);
        }
        for (int c = 0; c < 8; c++) {
            x.instance(c, 1, 255, 0);
            x.instance(c, 2, 0, 0);
        }
        int deep = x.type(2, 0, 0);
        for (int i = 0; i < 15; i++) {
            deep = x.type(1, deep, 0);
        }
        due("14 all of all", x.is(5, deep), 1);
    }

    private static void promise15Under() {
        ClassInference x = new ClassInference();
        due("15 none", x.under(0, 0), BAD);
        x.class0(-1);
        x.class0(0);
        x.class0(1);
        x.class0(0);
        due("15 itself", x.under(0, 0), 1);
        due("15 above", x.under(1, 0), 1);
        due("15 above that", x.under(2, 0), 1);
        due("15 not the other way", x.under(0, 2), 0);
        due("15 beside", x.under(3, 1), 0);
        due("15 beside the other way", x.under(1, 3), 0);
        due("15 no class", x.under(4, 0), BAD);
        due("15 no other", x.under(0, 4), BAD);
        due("15 -1", x.under(0, -1), BAD);
        due("15 -1", x.under(-1, 0), BAD);
        for (int far : FAR) {
            due("15 far", x.under(far, 0), BAD);
            due("15 far", x.under(0, far), BAD);
        }
    }

    private static void promise16To18Counts() {
        ClassInference x = new ClassInference();
        x.variable(0);
        x.variable(0);
        x.variable(8);
        due("16 once each", x.types(), 1);
        x.type(0, 0, 0);
        x.type(0, 0, 9);
        due("16 with an arrow", x.types(), 2);
        x.class0(-1);
        x.class0(7);
        due("17 one class", x.classes(), 1);
        x.class0(0);
        due("17 two classes", x.classes(), 2);
        x.expression(NAME, 0, 0, 0);
        x.expression(NAME, 0, 0, 0);
        x.expression(NAME, 99, 0, 0);
        due("18 two expressions", x.expressions(), 2);
        x.infer(0);
        due("16 infer makes none", x.types(), 2);
        due("18 infer makes none", x.expressions(), 2);
    }

    public static void main(String[] args) {
        promise1NewObject();
        promise2Constructor();
        promise3Variable();
        promise4Type();
        promise5Class();
        promise6Method();
        promise7Instance();
        promise8Expression();
        promise9Types();
        promise9TooLarge();
        promise9Wants();
        promise10Shape();
        promise11And12Wants();
        promise13Passes();
        promise14Is();
        promise15Under();
        promise16To18Counts();
        System.out.println(wrong == 0 ? "all promises hold" : wrong + " answers are not as due");
        if (wrong != 0) {
            System.exit(1);
        }
    }
}
