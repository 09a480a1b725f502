import java.util.ArrayList;
import java.util.List;

/**
 * A type of exactly so many nodes, as an expression: constants V0 -> T are applied one after another to one
 * without variables. T is some lists around pairs whose leaves are V0, so that it makes of a type with n nodes
 * one with (lists + leaves - 1) + leaves * n nodes.
 */
final class Sized {
    private static final int MOST_STEPS = 11;
    private static final int MOST_OF_TYPE = 16;
    private static final int MOST_LEAVES = 7;
    private static final long HUGE = 1L << 40;

    private static final int END = 1;
    private static final int LIST = 2;
    private static final int PAIR = 3;

    private record Step(int lists, int leaves) {
        long above() {
            return lists + leaves - 1;
        }
    }

    /** The innermost step first. */
    private final List<Step> steps;
    private final int innermost;

    private Sized(List<Step> steps, int innermost) {
        this.steps = steps;
        this.innermost = innermost;
    }

    static Sized of(long nodes) {
        Sized found = search(nodes, MOST_STEPS);
        if (found == null) {
            throw new IllegalStateException("no type has " + nodes + " nodes");
        }
        return found;
    }

    private static Sized search(long nodes, int stepsLeft) {
        if (nodes <= MOST_OF_TYPE) {
            return new Sized(new ArrayList<>(), (int) nodes);
        }
        if (nodes > mostAfter(stepsLeft)) {
            return null;
        }
        for (int leaves = MOST_LEAVES; leaves > 1 && stepsLeft > 0; leaves--) {
            for (int lists = 0; 1 + lists + 2 * leaves <= MOST_OF_TYPE; lists++) {
                Step step = new Step(lists, leaves);
                long rest = nodes - step.above();
                Sized inner = rest % leaves == 0 && rest > 0 ? search(rest / leaves, stepsLeft - 1) : null;
                if (inner != null) {
                    inner.steps.add(step);
                    return inner;
                }
            }
        }
        return null;
    }

    private static long mostAfter(int stepCount) {
        long most = MOST_OF_TYPE;
        for (int i = 0; i < stepCount; i++) {
            most = MOST_LEAVES * (most + 1);
        }
        return most;
    }

    /** Seven leaves, twenty-five times over: more nodes than a long can count. */
    static Sized beyondLong() {
        List<Step> all = new ArrayList<>();
        for (int i = 0; i < 25; i++) {
            all.add(new Step(1, MOST_LEAVES));
        }
        return new Sized(all, 1);
    }

    private static void makeConstructors(Run r) {
        r.constructor(0);
        r.constructor(1);
        r.constructor(2);
    }

    private static int lists(Run r, int count, int of) {
        int t = of;
        for (int i = 0; i < count; i++) {
            t = r.type(LIST, t, 0);
        }
        return t;
    }

    private static int constant(Run r, Step step) {
        int v = r.variable(0);
        int t = v;
        for (int i = 1; i < step.leaves(); i++) {
            t = r.type(PAIR, t, v);
        }
        return r.constant(r.type(0, v, lists(r, step.lists(), t)));
    }

    /** The expression, on a new object. */
    int make(Run r) {
        makeConstructors(r);
        int e = r.constant(lists(r, innermost - 1, r.type(END, 0, 0)));
        for (Step step : steps) {
            e = r.apply(constant(r, step), e);
        }
        return e;
    }

    /** The expression when all twenty-five steps are the same one: a LET's x does five of them. */
    int makeByFives(Run r) {
        makeConstructors(r);
        int step = constant(r, steps.get(0));
        int five = r.lambda(0, applied(r, step, r.name(0)));
        return r.let(1, five, applied(r, r.name(1), r.constant(r.type(END, 0, 0))));
    }

    private static int applied(Run r, int function, int to) {
        int e = to;
        for (int i = 0; i < 5; i++) {
            e = r.apply(function, e);
        }
        return e;
    }

    /** What shape has to answer for a node that is there. */
    int nodeAt(long i) {
        long[] size = new long[steps.size() + 1];
        size[0] = innermost;
        for (int s = 0; s < steps.size(); s++) {
            size[s + 1] = Math.min(steps.get(s).above() + steps.get(s).leaves() * size[s], HUGE);
        }
        long left = i;
        for (int s = steps.size() - 1; s >= 0; s--) {
            Step step = steps.get(s);
            if (left < step.above()) {
                return left < step.lists() ? LIST : PAIR;
            }
            left = (left - step.above()) % size[s];
        }
        return left < innermost - 1 ? LIST : END;
    }
}
