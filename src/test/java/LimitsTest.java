/** Types that are huge, deep or wide: the answers have to be right there too, and come. */
public final class LimitsTest {
    private static final int NAME = 0;
    private static final int LAMBDA = 1;
    private static final int APPLY = 2;
    private static final int LET = 3;
    private static final int METHOD = 4;
    private static final int CONSTANT = 5;

    private static int wrong = 0;

    private static void due(String what, int got, int want) {
        if (got != want) {
            wrong++;
            System.out.println(what + " answered " + got + ", due is " + want);
        }
    }

    /** An expression applied to what is given, so many times. */
    private static int applied(ClassInference x, int times, int function, int to) {
        int e = to;
        for (int i = 0; i < times; i++) {
            e = x.expression(APPLY, function, e, 0);
        }
        return e;
    }

    /** A lambda that applies a function so many times. */
    private static int repeated(ClassInference x, int function, int times) {
        return x.expression(LAMBDA, 0, applied(x, times, function, x.expression(NAME, 0, 0, 0)), 0);
    }

    /** V0 -> PAIR (PAIR V0 V0) (PAIR V0 V0), sixteen times over: 2^33 + 1 nodes. */
    private static void hugeType() {
        ClassInference x = new ClassInference();
        x.constructor(2);
        int v = x.variable(0);
        int pair = x.type(1, v, v);
        int four = x.type(0, v, x.type(1, pair, pair));
        int often = repeated(x, x.expression(CONSTANT, four, 0, 0), 4);
        int body = repeated(x, x.expression(NAME, 1, 0, 0), 4);
        due("huge infer", x.infer(x.expression(LET, 1, often, body)), 1000000000);
        due("huge shape(0)", x.shape(0), 0);
        due("huge shape(1)", x.shape(1), -1);
        int[] places = {2, 3, 33, 34, 35, 36, 37, 38, 1000, 999999999, 1000000000, 1000000001,
            Integer.MAX_VALUE - 2, Integer.MAX_VALUE - 1, Integer.MAX_VALUE};
        for (int place : places) {
            due("huge shape(" + place + ")", x.shape(place), inTree(place - 2L, 32));
        }
        for (int i = 1; i < 400; i++) {
            int place = i * 5382163;
            due("huge shape(" + place + ")", x.shape(place), inTree(place - 2L, 32));
        }
        due("huge wants", x.wants(), 0);
    }

    /** A node of a whole tree of pairs over variable 0, so many pairs deep. */
    private static int inTree(long place, int depth) {
        long left = place;
        int deep = depth;
        while (left > 0) {
            left--;
            deep--;
            long size = (2L << deep) - 1;
            if (left >= size) {
                left -= size;
            }
        }
        return deep == 0 ? -1 : 1;
    }

    /** A want on a huge type goes down to its one variable; with an instance that wants two. */
    private static void wantOnHugeType() {
        ClassInference x = new ClassInference();
        x.constructor(2);
        int v = x.variable(0);
        int pair = x.type(1, v, v);
        int four = x.type(0, v, x.type(1, pair, pair));
        int same = x.type(0, v, v);
        x.class0(-1);
        x.class0(-1);
        x.method(0, same);
        x.instance(0, 1, 1, 2);
        int function = x.expression(CONSTANT, four, 0, 0);
        int wanted = applied(x, 8, function, x.expression(NAME, 0, 0, 0));
        int all = x.expression(LAMBDA, 0, x.expression(APPLY, x.expression(METHOD, 0, 0, 0), wanted, 0), 0);
        due("want on a huge type, lacking", x.infer(all), -4);
        x.instance(1, 1, 0, 3);
        due("want on a huge type", x.infer(all), 131073);
        due("want on a huge type: wants", x.wants(), 2);
        due("want on a huge type: first", x.want(0, 0), 0);
        due("want on a huge type: second", x.want(1, 0), 1);
        due("want on a huge type: variable", x.want(1, 1), 0);
        due("want on a huge type: passes", x.passes(), 1);
    }

    /** V0 -> LIST^13 V0, twenty-five times over, of LIST^15 V0: 340 deep, with a want below. */
    private static void deepType() {
        ClassInference x = new ClassInference();
        x.constructor(1);
        int v = x.variable(0);
        int thirteen = v;
        for (int i = 0; i < 13; i++) {
            thirteen = x.type(1, thirteen, 0);
        }
        int fifteen = x.type(1, x.type(1, thirteen, 0), 0);
        int often = repeated(x, x.expression(CONSTANT, x.type(0, v, thirteen), 0, 0), 5);
        int name = x.expression(NAME, 1, 0, 0);
        int five = applied(x, 5, name, x.expression(CONSTANT, fifteen, 0, 0));
        due("deep infer", x.infer(x.expression(LET, 1, often, five)), 341);
        due("deep shape(339)", x.shape(339), 1);
        due("deep shape(340)", x.shape(340), -1);
        due("deep shape(341)", x.shape(341), -100);
        x.class0(-1);
        x.method(0, x.type(0, v, v));
        x.instance(0, 1, 1, 0);
        int four = applied(x, 4, name, x.expression(CONSTANT, fifteen, 0, 0));
        int shown = x.expression(APPLY, x.expression(METHOD, 0, 0, 0), four, 0);
        due("deep infer with a want", x.infer(x.expression(LET, 1, often, shown)), 276);
        due("deep wants", x.wants(), 1);
        due("deep want", x.want(0, 1), 0);
    }

    /** Copies of copies: two of each in the next one, with 2 * 2 * 2 variables in the end. */
    private static void manyVariables() {
        ClassInference x = new ClassInference();
        x.constructor(2);
        int v = x.variable(0);
        int w = x.variable(1);
        int pairing = x.type(0, v, x.type(0, w, x.type(1, v, w)));
        int pair = x.expression(CONSTANT, pairing, 0, 0);
        x.class0(-1);
        x.method(0, v);
        int e = x.expression(METHOD, 0, 0, 0);
        for (int i = 1; i < 4; i++) {
            int name = x.expression(NAME, i, 0, 0);
            int both = x.expression(APPLY, x.expression(APPLY, pair, name, 0), name, 0);
            e = x.expression(LET, i, e, both);
        }
        due("many infer", x.infer(e), 15);
        int[] shape = {1, 1, 1, -1, -2, 1, -3, -4, 1, 1, -5, -6, 1, -7, -8};
        for (int i = 0; i < shape.length; i++) {
            due("many shape(" + i + ")", x.shape(i), shape[i]);
        }
        due("many wants", x.wants(), 8);
        for (int i = 0; i < 8; i++) {
            due("many want(" + i + ", 1)", x.want(i, 1), i);
        }
        due("many passes", x.passes(), 1 + 2 + 4 + 8);
    }

    /** A circle that goes through a LET's copies has no type, however it is walked. */
    private static void circles() {
        ClassInference x = new ClassInference();
        int y = x.expression(NAME, 0, 0, 0);
        int z = x.expression(NAME, 1, 0, 0);
        int self = x.expression(APPLY, y, y, 0);
        int twice = x.expression(APPLY, z, z, 0);
        due("circle in an e", x.infer(x.expression(LET, 1, x.expression(LAMBDA, 0, self, 0), twice)), -2);
        due("circle around a let", x.infer(x.expression(LAMBDA, 0, x.expression(LET, 1, self, twice), 0)), -2);
        due("circle in an e that is not used",
            x.infer(x.expression(LAMBDA, 0, x.expression(LET, 1, self, y), 0)), -2);
        int many = twice;
        for (int i = 0; i < 6; i++) {
            many = x.expression(LET, 1, twice, many);
        }
        int whole = x.expression(LET, 1, x.expression(LAMBDA, 0, self, 0), x.expression(LET, 1, twice, twice));
        due("circles copied", x.infer(whole), -2);
        due("circles too large", x.infer(many), -3);
    }

    public static void main(String[] args) {
        hugeType();
        wantOnHugeType();
        deepType();
        manyVariables();
        circles();
        System.out.println(wrong == 0 ? "all limits hold" : wrong + " answers are not as due");
        if (wrong != 0) {
            System.exit(1);
        }
    }
}
