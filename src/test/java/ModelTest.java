import java.util.ArrayList;
import java.util.HashMap;
import java.util.HashSet;
import java.util.LinkedHashMap;
import java.util.List;
import java.util.Map;
import java.util.Set;
import java.util.TreeSet;

/**
 * Random runs, compared with a model that is written as plainly as the document: types are trees,
 * what is known of variables is a map, and wants are lists of a class and a type.
 */
public final class ModelTest {
    private static final int RUNS = 12000;
    /** "An object is used for at most 512 calls": the last three ask how many of each there are. */
    private static final int MOST_CALLS = 512 - 3;
    private static final int TOO_BIG_FOR_MODEL = 20000;

    private static int wrong = 0;
    private static int calls = 0;
    private static final Map<String, Integer> seen = new LinkedHashMap<>();

    /** A variable (constructor -1, with a number), or a constructor with parts. */
    private record Type(int constructor, int number, List<Type> parts) {
    }

    private record Want(int class0, Type type) {
    }

    private record Instance(int class0, int constructor, List<Set<Integer>> wanted) {
    }

    private record Expression(int kind, int a, int b, int c) {
    }

    /** A name with its type; for a LET its open variables and the wants that belong to it. */
    private record Bound(int name, boolean let, Type type, Set<Integer> open, List<Want> wants) {
    }

    private static final class NoType extends RuntimeException {
        private static final long serialVersionUID = 1;
    }

    private static final class TooBig extends RuntimeException {
        private static final long serialVersionUID = 1;
    }

    private static final class Model {
        final List<Integer> constructors = new ArrayList<>(List.of(2));
        final List<Type> types = new ArrayList<>();
        final List<Integer> above = new ArrayList<>();
        final Map<Integer, Type> methods = new HashMap<>();
        final List<Instance> instances = new ArrayList<>();
        final List<Expression> expressions = new ArrayList<>();

        List<Integer> shape = new ArrayList<>();
        List<int[]> wants = new ArrayList<>();
        int passes = 0;

        private Map<Integer, Type> known = new HashMap<>();
        private int next = 0;
        private boolean lacks;
        private boolean ambiguous;
        private int handed;

        int constructor(int parts) {
            if (parts < 0 || parts > 2) {
                return -1;
            }
            if (constructors.size() == 8) {
                return -3;
            }
            constructors.add(parts);
            return constructors.size() - 1;
        }

        int variable(int v) {
            return v < 0 || v > 7 ? -1 : keep(new Type(-1, v, List.of()));
        }

        private int keep(Type type) {
            if (types.contains(type)) {
                return types.indexOf(type);
            }
            if (types.size() == 60 || count(type) > 16) {
                return -3;
            }
            types.add(type);
            return types.size() - 1;
        }

        private static int count(Type type) {
            int n = 1;
            for (Type part : type.parts()) {
                n += count(part);
            }
            return n;
        }

        int type(int constructor, int a, int b) {
            if (constructor < 0 || constructor >= constructors.size()) {
                return -1;
            }
            List<Type> parts = new ArrayList<>();
            int[] given = {a, b};
            for (int i = 0; i < constructors.get(constructor); i++) {
                if (given[i] < 0 || given[i] >= types.size()) {
                    return -1;
                }
                parts.add(types.get(given[i]));
            }
            return keep(new Type(constructor, 0, parts));
        }

        private boolean isClass(int c) {
            return c >= 0 && c < above.size();
        }

        int class0(int up) {
            if (up != -1 && !isClass(up)) {
                return -1;
            }
            if (above.size() == 8) {
                return -3;
            }
            above.add(up);
            return above.size() - 1;
        }

        int method(int c, int type) {
            if (!isClass(c) || type < 0 || type >= types.size() || methods.containsKey(c)) {
                return -1;
            }
            if (!variables(types.get(type)).contains(0)) {
                return -1;
            }
            methods.put(c, types.get(type));
            return 1;
        }

        boolean isUnder(int c, int other) {
            return c == other || above.get(c) != -1 && isUnder(above.get(c), other);
        }

        int under(int c, int other) {
            return !isClass(c) || !isClass(other) ? -1 : isUnder(c, other) ? 1 : 0;
        }

        private Instance find(int c, int constructor) {
            for (Instance i : instances) {
                if (i.class0() == c && i.constructor() == constructor) {
                    return i;
                }
            }
            return null;
        }

        int instance(int c, int constructor, int first, int second) {
            if (!isClass(c) || constructor < 0 || constructor >= constructors.size()) {
                return -1;
            }
            int[] given = {first, second};
            List<Set<Integer>> wanted = new ArrayList<>();
            for (int part = 0; part < 2; part++) {
                Set<Integer> set = new TreeSet<>();
                for (int bit = 0; bit < 32; bit++) {
                    if ((given[part] >> bit & 1) == 1) {
                        if (!isClass(bit)) {
                            return -1;
                        }
                        set.add(bit);
                    }
                }
                if (part < constructors.get(constructor)) {
                    wanted.add(set);
                }
            }
            if (!fits(c, constructor, wanted)) {
                return -2;
            }
            instances.add(new Instance(c, constructor, wanted));
            return instances.size() - 1;
        }

        private boolean fits(int c, int constructor, List<Set<Integer>> wanted) {
            if (find(c, constructor) != null) {
                return false;
            }
            if (above.get(c) == -1) {
                return true;
            }
            Instance upper = find(above.get(c), constructor);
            if (upper == null) {
                return false;
            }
            for (int part = 0; part < wanted.size(); part++) {
                for (int sought : upper.wanted().get(part)) {
                    if (wanted.get(part).stream().noneMatch(w -> isUnder(w, sought))) {
                        return false;
                    }
                }
            }
            return true;
        }

        int is(int c, int type) {
            if (!isClass(c) || type < 0 || type >= types.size() || !variables(types.get(type)).isEmpty()) {
                return -1;
            }
            return isIn(c, types.get(type)) ? 1 : 0;
        }

        private boolean isIn(int c, Type type) {
            Instance i = find(c, type.constructor());
            if (i == null) {
                return false;
            }
            for (int part = 0; part < type.parts().size(); part++) {
                for (int wanted : i.wanted().get(part)) {
                    if (!isIn(wanted, type.parts().get(part))) {
                        return false;
                    }
                }
            }
            return true;
        }

        private boolean isExpression(int e) {
            return e >= 0 && e < expressions.size();
        }

        int expression(int kind, int a, int b, int c) {
            boolean name = a >= 0 && a < 16;
            boolean good = kind == 0 && name
                || kind == 1 && name && isExpression(b)
                || kind == 2 && isExpression(a) && isExpression(b)
                || kind == 3 && name && isExpression(b) && isExpression(c)
                || kind == 4 && isClass(a) && methods.containsKey(a)
                || kind == 5 && a >= 0 && a < types.size();
            if (!good) {
                return -1;
            }
            if (expressions.size() == 120) {
                return -3;
            }
            expressions.add(new Expression(kind, a, b, c));
            return expressions.size() - 1;
        }

        int nodes(int e) {
            Expression x = expressions.get(e);
            int n = switch (x.kind()) {
                case 1 -> 1 + nodes(x.b());
                case 2 -> 1 + nodes(x.a()) + nodes(x.b());
                case 3 -> 1 + nodes(x.b()) + nodes(x.c());
                default -> 1;
            };
            return Math.min(n, 1000);
        }

        int infer(int e) {
            if (!isExpression(e)) {
                return -1;
            }
            if (nodes(e) > 24) {
                return -3;
            }
            known = new HashMap<>();
            next = 0;
            lacks = false;
            ambiguous = false;
            handed = 0;
            List<Want> wanted = new ArrayList<>();
            Type type;
            List<Want> own;
            try {
                type = typed(e, List.of(), wanted);
                own = reduced(wanted);
                type = written(type);
            } catch (NoType none) {
                return -2;
            }
            Set<Integer> inType = variables(type);
            for (Want w : own) {
                if (!inType.contains(w.type().number())) {
                    ambiguous = true;
                }
            }
            if (lacks) {
                return -4;
            }
            if (ambiguous) {
                return -5;
            }
            tell(type, own);
            return shape.size();
        }

        private void tell(Type type, List<Want> own) {
            List<Integer> numbers = new ArrayList<>();
            shape = new ArrayList<>();
            tellNodes(type, numbers);
            wants = new ArrayList<>();
            for (Want w : own) {
                wants.add(new int[] {w.class0(), numbers.indexOf(w.type().number())});
            }
            wants.sort((p, q) -> p[1] != q[1] ? p[1] - q[1] : p[0] - q[0]);
            passes = handed;
        }

        private void tellNodes(Type type, List<Integer> numbers) {
            if (type.constructor() >= 0) {
                shape.add(type.constructor());
            } else {
                if (!numbers.contains(type.number())) {
                    numbers.add(type.number());
                }
                shape.add(-1 - numbers.indexOf(type.number()));
            }
            for (Type part : type.parts()) {
                tellNodes(part, numbers);
            }
        }

        private Type fresh() {
            return new Type(-1, next++, List.of());
        }

        private static Type arrow(Type from, Type to) {
            return new Type(0, 0, List.of(from, to));
        }

        /** The wants of the expression are added to wanted. */
        private Type typed(int e, List<Bound> around, List<Want> wanted) {
            Expression x = expressions.get(e);
            switch (x.kind()) {
                case 0:
                    return named(x.a(), around, wanted);
                case 1: {
                    Type from = fresh();
                    Type to = typed(x.b(), with(around, new Bound(x.a(), false, from, Set.of(), List.of())), wanted);
                    return arrow(from, to);
                }
                case 2: {
                    Type function = typed(x.a(), around, wanted);
                    Type argument = typed(x.b(), around, wanted);
                    Type to = fresh();
                    unify(function, arrow(argument, to));
                    return to;
                }
                case 3:
                    return typed(x.c(), with(around, let(x, around, wanted)), wanted);
                case 4: {
                    handed++;
                    Type[] zero = new Type[1];
                    Type copy = copy(methods.get(x.a()), null, new HashMap<>(), zero);
                    wanted.add(new Want(x.a(), zero[0]));
                    return copy;
                }
                default:
                    return copy(types.get(x.a()), null, new HashMap<>(), new Type[1]);
            }
        }

        private static List<Bound> with(List<Bound> around, Bound bound) {
            List<Bound> all = new ArrayList<>(around);
            all.add(0, bound);
            return all;
        }

        private Type named(int name, List<Bound> around, List<Want> wanted) {
            for (Bound b : around) {
                if (b.name() == name) {
                    if (!b.let()) {
                        return b.type();
                    }
                    Map<Integer, Type> copies = new HashMap<>();
                    Type copy = copy(written(b.type()), b.open(), copies, new Type[1]);
                    for (Want w : b.wants()) {
                        handed++;
                        wanted.add(new Want(w.class0(), copies.get(w.type().number())));
                    }
                    return copy;
                }
            }
            throw new NoType();
        }

        private Bound let(Expression x, List<Bound> around, List<Want> wanted) {
            List<Want> inside = new ArrayList<>();
            Type type = written(typed(x.b(), around, inside));
            Set<Integer> closed = new HashSet<>();
            for (Bound b : around) {
                if (!b.let()) {
                    closed.addAll(variables(written(b.type())));
                }
            }
            type = written(type);
            Set<Integer> open = variables(type);
            open.removeAll(closed);
            List<Want> own = new ArrayList<>();
            for (Want w : reduced(inside)) {
                int v = w.type().number();
                if (closed.contains(v)) {
                    wanted.add(w);
                } else if (open.contains(v)) {
                    own.add(w);
                } else {
                    ambiguous = true;
                }
            }
            return new Bound(x.a(), true, type, open, own);
        }

        /** A copy with fresh variables for some (null: all); zero gets what stands for variable 0. */
        private Type copy(Type type, Set<Integer> some, Map<Integer, Type> copies, Type[] zero) {
            if (type.constructor() < 0) {
                if (some != null && !some.contains(type.number())) {
                    return type;
                }
                Type copy = copies.get(type.number());
                if (copy == null) {
                    copy = fresh();
                    copies.put(type.number(), copy);
                }
                if (type.number() == 0) {
                    zero[0] = copy;
                }
                return copy;
            }
            List<Type> parts = new ArrayList<>();
            for (Type part : type.parts()) {
                parts.add(copy(part, some, copies, zero));
            }
            return new Type(type.constructor(), 0, parts);
        }

        private Set<Integer> variables(Type type) {
            Set<Integer> all = new HashSet<>();
            if (type.constructor() < 0) {
                all.add(type.number());
            }
            for (Type part : type.parts()) {
                all.addAll(variables(part));
            }
            return all;
        }

        private Type top(Type type) {
            Type at = type;
            while (at.constructor() < 0 && known.containsKey(at.number())) {
                at = known.get(at.number());
            }
            return at;
        }

        private Type written(Type type) {
            return written(type, new int[] {TOO_BIG_FOR_MODEL});
        }

        private Type written(Type type, int[] left) {
            if (left[0]-- <= 0) {
                throw new TooBig();
            }
            Type at = top(type);
            List<Type> parts = new ArrayList<>();
            for (Type part : at.parts()) {
                parts.add(written(part, left));
            }
            return new Type(at.constructor(), at.number(), parts);
        }

        private void unify(Type p, Type q) {
            Type a = written(p);
            Type b = written(q);
            if (a.equals(b)) {
                return;
            }
            if (a.constructor() < 0) {
                if (variables(b).contains(a.number())) {
                    throw new NoType();
                }
                known.put(a.number(), b);
            } else if (b.constructor() < 0) {
                unify(b, a);
            } else if (a.constructor() != b.constructor()) {
                throw new NoType();
            } else {
                for (int i = 0; i < a.parts().size(); i++) {
                    unify(a.parts().get(i), b.parts().get(i));
                }
            }
        }

        /** Wants on variables alone, those alone that stay; notes what lacks an instance. */
        private List<Want> reduced(List<Want> wanted) {
            Set<Want> flat = new HashSet<>();
            for (Want w : wanted) {
                flatten(w.class0(), written(w.type()), flat);
            }
            List<Want> stay = new ArrayList<>();
            for (Want w : flat) {
                boolean covered = false;
                for (Want other : flat) {
                    covered |= !other.equals(w) && other.type().equals(w.type()) && isUnder(other.class0(), w.class0());
                }
                if (!covered) {
                    stay.add(w);
                }
            }
            return stay;
        }

        private void flatten(int c, Type type, Set<Want> flat) {
            if (type.constructor() < 0) {
                flat.add(new Want(c, type));
                return;
            }
            Instance i = find(c, type.constructor());
            if (i == null) {
                lacks = true;
                return;
            }
            for (int part = 0; part < type.parts().size(); part++) {
                for (int wanted : i.wanted().get(part)) {
                    flatten(wanted, type.parts().get(part), flat);
                }
            }
        }
    }

    private static long state = 1;

    /** From 0 to below the bound, from a fixed row of numbers. */
    private static int roll(int bound) {
        state = state * 6364136223846793005L + 1442695040888963407L;
        return (int) ((state >>> 33) % bound);
    }

    private static int rarelyWrong(int bound) {
        return roll(30) == 0 ? roll(3) == 0 ? -1 - roll(2) : bound + roll(2) : roll(Math.max(bound, 1));
    }

    private static boolean roomFor(int more) {
        return calls + more <= MOST_CALLS;
    }

    private static void due(int run, String call, int got, int want) {
        calls++;
        if (got != want) {
            wrong++;
            if (wrong < 50) {
                System.out.println("run " + run + ": " + call + " answered " + got + ", due is " + want);
            }
        }
    }

    public static void main(String[] args) {
        int runs = args.length > 0 ? Integer.parseInt(args[0]) : RUNS;
        for (int run = 0; run < runs; run++) {
            state = run * 7919L + 17;
            roll(2);
            randomRun(run);
        }
        System.out.println(seen);
        System.out.println(wrong == 0 ? "the model agrees" : wrong + " answers are not the model's");
        if (wrong != 0) {
            System.exit(1);
        }
    }

    private static void randomRun(int run) {
        ClassInference x = new ClassInference();
        Model m = new Model();
        calls = 0;
        makeWorld(run, x, m);
        while (roomFor(2)) {
            step(run, x, m);
        }
        due(run, "types()", x.types(), m.types.size());
        due(run, "classes()", x.classes(), m.above.size());
        due(run, "expressions()", x.expressions(), m.expressions.size());
    }

    private static void makeWorld(int run, ClassInference x, Model m) {
        int constructors = 1 + roll(4);
        for (int i = 0; i < constructors; i++) {
            makeConstructor(run, x, m);
        }
        int variables = 1 + roll(3);
        for (int i = 0; i < variables; i++) {
            due(run, "variable", x.variable(i), m.variable(i));
        }
        int types = 4 + roll(12);
        for (int i = 0; i < types; i++) {
            makeType(run, x, m);
        }
        int classes = 1 + roll(4);
        for (int i = 0; i < classes; i++) {
            makeClass(run, x, m);
        }
        int methods = 2 + roll(10);
        for (int i = 0; i < methods; i++) {
            makeMethod(run, x, m);
        }
        int instances = roll(20);
        for (int i = 0; i < instances; i++) {
            makeInstance(run, x, m);
        }
    }

    private static void makeConstructor(int run, ClassInference x, Model m) {
        int parts = rarelyWrong(3);
        due(run, "constructor(" + parts + ")", x.constructor(parts), m.constructor(parts));
    }

    private static void makeType(int run, ClassInference x, Model m) {
        int c = roll(3) == 0 ? 0 : rarelyWrong(m.constructors.size());
        int a = rarelyWrong(m.types.size());
        int b = rarelyWrong(m.types.size());
        due(run, "type(" + c + ", " + a + ", " + b + ")", x.type(c, a, b), m.type(c, a, b));
    }

    private static void makeClass(int run, ClassInference x, Model m) {
        int up = roll(3) == 0 ? -1 : rarelyWrong(m.above.size());
        due(run, "class0(" + up + ")", x.class0(up), m.class0(up));
    }

    private static void makeMethod(int run, ClassInference x, Model m) {
        int c = rarelyWrong(m.above.size());
        int t = rarelyWrong(m.types.size());
        due(run, "method(" + c + ", " + t + ")", x.method(c, t), m.method(c, t));
    }

    private static void makeInstance(int run, ClassInference x, Model m) {
        int c = rarelyWrong(m.above.size());
        int k = rarelyWrong(m.constructors.size());
        int most = 1 << m.above.size();
        int first = rarelyWrong(most);
        int second = rarelyWrong(most);
        if (roll(2) == 0) {
            first &= roll(most);
            second &= roll(most);
        }
        String call = "instance(" + c + ", " + k + ", " + first + ", " + second + ")";
        due(run, call, x.instance(c, k, first, second), m.instance(c, k, first, second));
    }

    private static int lateExpression(Model m) {
        int n = m.expressions.size();
        return roll(3) > 0 && n > 6 ? n - 1 - roll(6) : rarelyWrong(n);
    }

    private static void makeExpression(int run, ClassInference x, Model m) {
        int kind = new int[] {0, 0, 1, 1, 1, 2, 2, 2, 2, 3, 3, 3, 4, 4, 5, 5, 6}[roll(roll(20) == 0 ? 17 : 16)];
        int a = kind == 2 ? lateExpression(m) : kind == 4 ? rarelyWrong(m.above.size())
            : kind == 5 ? rarelyWrong(m.types.size()) : roll(60) == 0 ? rarelyWrong(16) : roll(3);
        int b = lateExpression(m);
        int c = lateExpression(m);
        String call = "expression(" + kind + ", " + a + ", " + b + ", " + c + ")";
        due(run, call, x.expression(kind, a, b, c), m.expression(kind, a, b, c));
    }

    private static void step(int run, ClassInference x, Model m) {
        int what = roll(100);
        if (what < 55) {
            makeExpression(run, x, m);
        } else if (what < 90) {
            compareInfer(run, x, m);
        } else if (what < 92) {
            makeInstance(run, x, m);
        } else if (what < 94) {
            makeType(run, x, m);
        } else if (what < 95) {
            makeMethod(run, x, m);
        } else if (what < 96) {
            int v = rarelyWrong(8);
            due(run, "variable(" + v + ")", x.variable(v), m.variable(v));
        } else if (what < 98) {
            int c = rarelyWrong(m.above.size());
            int t = rarelyWrong(m.types.size());
            due(run, "is(" + c + ", " + t + ")", x.is(c, t), m.is(c, t));
        } else if (what < 99) {
            int c = rarelyWrong(m.above.size());
            int o = rarelyWrong(m.above.size());
            due(run, "under(" + c + ", " + o + ")", x.under(c, o), m.under(c, o));
        } else {
            makeClass(run, x, m);
            makeConstructor(run, x, m);
        }
    }

    private static void compareInfer(int run, ClassInference x, Model m) {
        int e = roll(2) == 0 ? m.expressions.size() - 1 : rarelyWrong(m.expressions.size());
        int want;
        try {
            want = m.infer(e);
        } catch (TooBig big) {
            seen.merge("too big for the model", 1, Integer::sum);
            return;
        }
        due(run, "infer(" + e + ")", x.infer(e), want);
        seen.merge(want > 0 ? "typed" : String.valueOf(want), 1, Integer::sum);
        boolean all = want > 0 && roll(3) > 0;
        for (int i = all ? -1 : m.shape.size() - 1; i <= m.shape.size() && roomFor(1); i++) {
            int due = i >= 0 && i < m.shape.size() ? m.shape.get(i) : -100;
            due(run, "after infer(" + e + "): shape(" + i + ")", x.shape(i), due);
        }
        if (roomFor(2)) {
            due(run, "after infer(" + e + "): wants()", x.wants(), m.wants.size());
            due(run, "after infer(" + e + "): passes()", x.passes(), m.passes);
        }
        for (int i = all ? -1 : m.wants.size() - 1; i <= m.wants.size() && roomFor(2); i++) {
            boolean there = i >= 0 && i < m.wants.size();
            due(run, "after infer(" + e + "): want(" + i + ", 0)", x.want(i, 0), there ? m.wants.get(i)[0] : -1);
            due(run, "after infer(" + e + "): want(" + i + ", 1)", x.want(i, 1), there ? m.wants.get(i)[1] : -1);
        }
        if (want > 0 && !m.wants.isEmpty()) {
            seen.merge("with wants", 1, Integer::sum);
        }
        if (want > 0 && m.nodes(e) > 12) {
            seen.merge("typed with over 12 nodes", 1, Integer::sum);
        }
    }
}
