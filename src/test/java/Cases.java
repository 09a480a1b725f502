import java.lang.reflect.InvocationTargetException;
import java.lang.reflect.Method;
import java.lang.reflect.Modifier;
import java.util.Arrays;
import java.util.Comparator;

/** What the tests of cases share: names for numbers, objects to start from, and how cases are run. */
abstract class Cases {
    static final int BAD = ClassInference.BAD;
    static final int NO = ClassInference.NO;
    static final int FULL = ClassInference.FULL;
    static final int LACKS = ClassInference.LACKS;
    static final int AMBIGUOUS = ClassInference.AMBIGUOUS;

    static final int NAME = 0;
    static final int LAMBDA = 1;
    static final int APPLY = 2;
    static final int LET = 3;
    static final int METHOD_OF = 4;
    static final int CONSTANT = 5;

    static final int ARROW = 0;

    /** Numbers that no number of a thing may be: far ones, and those that lie a power of two away from one. */
    static final int[] FAR = {Integer.MIN_VALUE, Integer.MIN_VALUE + 1, -65536, -256, -64, -33, -32, -8,
        120, 128, 256, 1000, 65536, 1 << 30, Integer.MAX_VALUE - 1, Integer.MAX_VALUE};

    static final int[] NONE = {};

    private static String current = "";
    private static int cases = 0;
    private static int faults = 0;

    static void fault(String what) {
        faults++;
        System.out.println(current + ": " + what);
    }

    static void equal(String call, int got, int want) {
        if (got != want) {
            fault(call + " answered " + got + ", due is " + want);
        }
    }

    /** Runs each case of a test: its static methods without parameters whose names begin with what they test. */
    static void runAll(Class<?> test) {
        Method[] all = test.getDeclaredMethods();
        Arrays.sort(all, Comparator.comparing(Method::getName));
        for (Method each : all) {
            if (isCase(each)) {
                runCase(each);
            }
        }
        System.out.println(cases + " cases, " + faults + " faults");
        if (faults != 0 || cases == 0) {
            System.exit(1);
        }
    }

    static boolean isCase(Method each) {
        String name = each.getName();
        return (name.startsWith("promise") || name.startsWith("terms") || name.startsWith("whatItIs"))
            && Modifier.isStatic(each.getModifiers()) && each.getParameterCount() == 0;
    }

    private static void runCase(Method each) {
        current = each.getName();
        cases++;
        try {
            each.setAccessible(true);
            each.invoke(null);
        } catch (InvocationTargetException thrown) {
            fault("threw " + thrown.getCause());
        } catch (IllegalAccessException closed) {
            fault("can't be run: " + closed);
        }
    }

    // What world() has.
    static final int INT = 1;
    static final int LIST = 2;
    static final int PAIR = 3;
    static final int V0 = 0;
    static final int V1 = 1;
    static final int OF_INT = 2;
    static final int LIST_V0 = 3;
    static final int PAIR_V0_V1 = 4;
    static final int V0_TO_INT = 5;
    static final int V0_TO_V0 = 6;
    static final int INT_TO_V0 = 7;
    static final int EQ = 0;
    static final int ORD = 1;
    static final int SHOW = 2;

    /** Constructors and types with these names; ORD is under EQ; methods V0 -> INT, V0 -> V0 and V0 -> INT. */
    static Run world() {
        Run r = new Run();
        r.constructor(0);
        r.constructor(1);
        r.constructor(2);
        r.variable(0);
        r.variable(1);
        r.type(INT, 0, 0);
        r.type(LIST, V0, 0);
        r.type(PAIR, V0, V1);
        r.type(ARROW, V0, OF_INT);
        r.type(ARROW, V0, V0);
        r.type(ARROW, OF_INT, V0);
        r.class0(-1);
        r.class0(EQ);
        r.class0(-1);
        r.method(EQ, V0_TO_INT);
        r.method(ORD, V0_TO_V0);
        r.method(SHOW, V0_TO_INT);
        return r;
    }

    /** The world, and a type with wants has been told: EQ of the first of two variables, SHOW of the second. */
    static Run worldWithTold() {
        Run r = world();
        int pick = r.constant(r.type(ARROW, OF_INT, r.type(ARROW, OF_INT, OF_INT)));
        int eq = r.apply(r.methodOf(EQ), r.name(0));
        int show = r.apply(r.methodOf(SHOW), r.name(1));
        r.infer(r.lambda(0, r.lambda(1, r.apply(r.apply(pick, eq), show))));
        return r;
    }
}
