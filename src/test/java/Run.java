import java.util.ArrayList;
import java.util.List;

/**
 * A run of calls on one new object, kept so that it can be made anew: what a refused call has changed
 * shows when the same run with it and without it is asked, and gone on with, in the same way.
 */
final class Run {
    /** "An object is used for at most 512 calls": no test may lean on more. */
    static final int MOST_CALLS = 512;
    private static final int PROBES_AT_ONCE = 200;

    enum Op {
        CONSTRUCTOR, VARIABLE, TYPE, CLASS0, METHOD, INSTANCE, EXPRESSION, INFER,
        SHAPE, WANTS, WANT, PASSES, IS, UNDER, TYPES, CLASSES, EXPRESSIONS;

        boolean mayChange() {
            return ordinal() <= INFER.ordinal();
        }
    }

    private record Call(Op op, int... given) {
        int on(ClassInference x) {
            int[] g = given;
            return switch (op) {
                case CONSTRUCTOR -> x.constructor(g[0]);
                case VARIABLE -> x.variable(g[0]);
                case TYPE -> x.type(g[0], g[1], g[2]);
                case CLASS0 -> x.class0(g[0]);
                case METHOD -> x.method(g[0], g[1]);
                case INSTANCE -> x.instance(g[0], g[1], g[2], g[3]);
                case EXPRESSION -> x.expression(g[0], g[1], g[2], g[3]);
                case INFER -> x.infer(g[0]);
                case SHAPE -> x.shape(g[0]);
                case WANTS -> x.wants();
                case WANT -> x.want(g[0], g[1]);
                case PASSES -> x.passes();
                case IS -> x.is(g[0], g[1]);
                case UNDER -> x.under(g[0], g[1]);
                case TYPES -> x.types();
                case CLASSES -> x.classes();
                case EXPRESSIONS -> x.expressions();
            };
        }

        String text() {
            StringBuilder all = new StringBuilder(op.name().toLowerCase()).append("(");
            for (int i = 0; i < given.length; i++) {
                all.append(i == 0 ? "" : ", ").append(given[i]);
            }
            return all.append(")").toString();
        }
    }

    private static final List<Call> QUESTIONS = questions();
    private static final List<Call> PROBES = probes();

    private final ClassInference x = new ClassInference();
    private final List<Call> kept = new ArrayList<>();
    private List<Integer> plain;
    private int calls;

    /** Makes a call. */
    int call(Op op, int... given) {
        Call call = new Call(op, given);
        if (op.mayChange()) {
            kept.add(call);
            plain = null;
        }
        return make(call);
    }

    private int make(Call call) {
        calls++;
        if (calls > MOST_CALLS) {
            Cases.fault("the test makes more than " + MOST_CALLS + " calls on one object");
        }
        return call.on(x);
    }

    int calls() {
        return calls;
    }

    /** Makes a call that has to be answered so. */
    void due(int answer, Op op, int... given) {
        Cases.equal(new Call(op, given).text(), call(op, given), answer);
    }

    /** Makes a call that has to be refused so, and has to change nothing. */
    void refused(int answer, Op op, int... given) {
        changesNothing(answer, op, given);
    }

    /** Makes a call that has to be answered so, and looks whether anything is another one since. */
    void changesNothing(int answer, Op op, int... given) {
        Call call = new Call(op, given);
        Cases.equal(call.text(), make(call), answer);
        if (plain == null) {
            plain = answersOfProbes(null);
        }
        List<Integer> after = answersOfProbes(call);
        for (int i = 0; i < plain.size(); i++) {
            if (!plain.get(i).equals(after.get(i))) {
                Cases.fault("after " + call.text() + ", " + PROBES.get(i).text() + " answers "
                    + after.get(i) + ", without it " + plain.get(i));
                return;
            }
        }
    }

    /** What all probes answer on this run made anew, some at a time, with the call behind it or none. */
    private List<Integer> answersOfProbes(Call behind) {
        List<Integer> answers = new ArrayList<>();
        for (int from = 0; from < PROBES.size(); from += PROBES_AT_ONCE) {
            ClassInference again = new ClassInference();
            for (Call call : kept) {
                call.on(again);
            }
            if (behind != null) {
                behind.on(again);
            }
            int to = Math.min(from + PROBES_AT_ONCE, PROBES.size());
            for (Call probe : PROBES.subList(from, to)) {
                answers.add(probe.on(again));
            }
            if (kept.size() + 1 + to - from > MOST_CALLS) {
                Cases.fault("the probes make more than " + MOST_CALLS + " calls on one object");
            }
        }
        return answers;
    }

    /** What is told of an expression on this run made anew, when another one is typed before it (-1: none). */
    List<Integer> toldAfter(int before, int expression) {
        ClassInference again = new ClassInference();
        for (Call call : kept) {
            call.on(again);
        }
        if (before >= 0) {
            again.infer(before);
        }
        List<Integer> answers = new ArrayList<>();
        answers.add(again.infer(expression));
        for (Call question : QUESTIONS) {
            if (answers.get(0) > 0) {
                answers.add(question.on(again));
            }
        }
        return answers;
    }

    private static List<Call> probes() {
        List<Call> all = new ArrayList<>(QUESTIONS);
        for (int class0 = 0; class0 < 8; class0++) {
            for (int type = 0; type < 60; type++) {
                all.add(new Call(Op.IS, class0, type));
            }
        }
        addNewThings(all);
        for (int e = 0; e < 120; e++) {
            all.add(new Call(Op.INFER, e));
        }
        all.addAll(QUESTIONS);
        for (int i = 0; i < 120; i++) {
            all.add(new Call(Op.EXPRESSION, 0, 0, 0, 0));
        }
        return all;
    }

    private static List<Call> questions() {
        List<Call> all = new ArrayList<>();
        all.add(new Call(Op.TYPES));
        all.add(new Call(Op.CLASSES));
        all.add(new Call(Op.EXPRESSIONS));
        all.add(new Call(Op.WANTS));
        all.add(new Call(Op.PASSES));
        for (int i = 0; i < 32; i++) {
            all.add(new Call(Op.SHAPE, i));
        }
        for (int i = 0; i < 16; i++) {
            all.add(new Call(Op.WANT, i, 0));
            all.add(new Call(Op.WANT, i, 1));
        }
        for (int c = 0; c < 64; c++) {
            all.add(new Call(Op.UNDER, c / 8, c % 8));
        }
        return all;
    }

    /** What is made next shows how many there were, and which parts, methods and instances they had. */
    private static void addNewThings(List<Call> all) {
        for (int c = 0; c < 8; c++) {
            all.add(new Call(Op.EXPRESSION, 4, c, 0, 0));
            all.add(new Call(Op.TYPE, c, -1, -1));
            all.add(new Call(Op.TYPE, c, 0, -1));
            all.add(new Call(Op.TYPE, c, 0, 0));
        }
        for (int i = 0; i < 64; i++) {
            all.add(new Call(Op.INSTANCE, i % 8, i / 8, 0, 0));
        }
        for (int i = 0; i < 8; i++) {
            all.add(new Call(Op.CONSTRUCTOR, 0));
            all.add(new Call(Op.CLASS0, -1));
            all.add(new Call(Op.VARIABLE, i));
            all.add(new Call(Op.METHOD, i, 0));
        }
    }

    int constructor(int parts) {
        return call(Op.CONSTRUCTOR, parts);
    }

    int variable(int v) {
        return call(Op.VARIABLE, v);
    }

    int type(int constructor, int a, int b) {
        return call(Op.TYPE, constructor, a, b);
    }

    int class0(int above) {
        return call(Op.CLASS0, above);
    }

    int method(int class0, int type) {
        return call(Op.METHOD, class0, type);
    }

    int instance(int class0, int constructor, int first, int second) {
        return call(Op.INSTANCE, class0, constructor, first, second);
    }

    int infer(int expression) {
        return call(Op.INFER, expression);
    }

    int name(int n) {
        return call(Op.EXPRESSION, 0, n, 0, 0);
    }

    int lambda(int n, int e) {
        return call(Op.EXPRESSION, 1, n, e, 0);
    }

    int apply(int e, int f) {
        return call(Op.EXPRESSION, 2, e, f, 0);
    }

    int let(int n, int e, int f) {
        return call(Op.EXPRESSION, 3, n, e, f);
    }

    int methodOf(int c) {
        return call(Op.EXPRESSION, 4, c, 0, 0);
    }

    int constant(int t) {
        return call(Op.EXPRESSION, 5, t, 0, 0);
    }

    /** What has to be told of the latest type: its nodes, its wants as class and variable, its passes. */
    void told(int[] shape, int[] wants, int passes) {
        for (int i = 0; i < shape.length; i++) {
            due(shape[i], Op.SHAPE, i);
        }
        due(-100, Op.SHAPE, shape.length);
        due(wants.length / 2, Op.WANTS);
        for (int i = 0; i < wants.length; i++) {
            due(wants[i], Op.WANT, i / 2, i % 2);
        }
        due(-1, Op.WANT, wants.length / 2, 0);
        due(-1, Op.WANT, wants.length / 2, 1);
        due(passes, Op.PASSES);
    }

    /** An expression is typed, and this has to be told of it. */
    void typed(int expression, int[] shape, int[] wants, int passes) {
        due(shape.length, Op.INFER, expression);
        told(shape, wants, passes);
    }
}
