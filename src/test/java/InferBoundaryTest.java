import java.util.List;

/**
 * Boundary cases of promises 9 to 13, and of the Terms that they use: each has a method of its own, named after
 * the promise (or the Terms) and the case, with the words that name the case.
 */
public final class InferBoundaryTest extends Cases {
    private static final int BILLION = 1000000000;
    private static final int[] IDENTITY = {ARROW, -1, -1};

    public static void main(String[] args) {
        runAll(InferBoundaryTest.class);
    }

    /** V0 -> V1 -> PAIR V0 V1, as an expression. */
    private static int pairing(Run r) {
        return r.constant(r.type(ARROW, V0, r.type(ARROW, V1, PAIR_V0_V1)));
    }

    private static int pairOf(Run r, int pairing, int e, int f) {
        return r.apply(r.apply(pairing, e), f);
    }

    // What it is

    /** "An object is used for at most 512 calls": the last one of them is answered as the others are. */
    static void whatItIs_calls_theLastOf512() {
        Run r = new Run();
        int function = fullestTables(r);
        while (r.calls() < Run.MOST_CALLS - 4) {
            r.due(47, Run.Op.INFER, 119);
        }
        r.due(255, Run.Op.INFER, function);
        r.due(-100, Run.Op.SHAPE, 255);
        r.due(-128, Run.Op.SHAPE, 254);
        r.due(16, Run.Op.WANTS);
        equal("calls", r.calls(), Run.MOST_CALLS);
    }

    /** "at most 512 calls": however many of them are the dearest one. */
    static void whatItIs_calls_nearlyAllTypeAnExpression() {
        Run r = new Run();
        int many = manyVariables(r);
        while (r.calls() < Run.MOST_CALLS - 3) {
            r.due(255, Run.Op.INFER, many);
        }
        r.due(-128, Run.Op.SHAPE, 254);
        r.due(16, Run.Op.WANTS);
        r.due(1 + 4 + 16, Run.Op.PASSES);
        equal("calls", r.calls(), Run.MOST_CALLS);
    }

    /** All that can be made, each up to its limit; the last expression is a chain of 23 LAMBDAs: another one's number. */
    private static int fullestTables(Run r) {
        int many = manyVariables(r);
        for (int i = 0; i < 6; i++) {
            r.constructor(0);
        }
        for (int c = 1; c < 8; c++) {
            r.class0(c - 1);
            r.method(c, 0);
        }
        for (int i = 8; i < 64; i++) {
            r.instance(i % 8, i / 8, 255, 255);
        }
        for (int v = 0; v < 8; v++) {
            r.variable(v);
        }
        for (int i = 0; i < 60 && r.call(Run.Op.TYPES) < 60; i++) {
            r.type(ARROW, i % 8, i / 8);
        }
        int spare = 120 - 24 - r.call(Run.Op.EXPRESSIONS);
        for (int i = 0; i < spare; i++) {
            r.name(i % 16);
        }
        int e = r.name(0);
        for (int i = 0; i < 23; i++) {
            e = r.lambda(i % 16, e);
        }
        equal("the last expression", e, 119);
        r.due(60, Run.Op.TYPES);
        r.due(8, Run.Op.CLASSES);
        r.due(120, Run.Op.EXPRESSIONS);
        return many;
    }

    /**
     * Four times four copies of a METHOD's type of eight leaves: a tree of PAIRs with 128 variables, 255 nodes.
     * Variable 0 is the last leaf of the method, so that variables 7, 15 .. 127 are wanted to be in class 0.
     */
    private static int manyVariables(Run r) {
        int pair = r.constructor(2);
        int[] v = new int[8];
        for (int i = 0; i < 8; i++) {
            v[i] = r.variable(i);
        }
        int left = r.type(pair, r.type(pair, v[7], v[6]), r.type(pair, v[5], v[4]));
        int right = r.type(pair, r.type(pair, v[3], v[2]), r.type(pair, v[1], v[0]));
        r.class0(-1);
        r.method(0, r.type(pair, left, right));
        int four = r.type(pair, r.type(pair, v[0], v[1]), r.type(pair, v[2], v[3]));
        for (int i = 3; i >= 0; i--) {
            four = r.type(ARROW, v[i], four);
        }
        int quad = r.constant(four);
        int first = fourTimes(r, quad, r.name(0));
        int second = fourTimes(r, quad, r.name(1));
        return r.let(0, r.methodOf(0), r.let(1, first, second));
    }

    private static int fourTimes(Run r, int quad, int e) {
        int all = quad;
        for (int i = 0; i < 4; i++) {
            all = r.apply(all, e);
        }
        return all;
    }

    // Promise 9: infer

    /** "BAD when there is none such" */
    static void promise09_expression_firstAndLast() {
        Run r = worldWithTold();
        r.refused(BAD, Run.Op.INFER, -1);
        r.refused(BAD, Run.Op.INFER, 11);
        for (int far : FAR) {
            r.refused(BAD, Run.Op.INFER, far);
        }
        r.due(5, Run.Op.INFER, 10);
        r.due(5, Run.Op.INFER, 0);
    }

    /** "BAD when there is none such": 119 is the last one that there can be. */
    static void promise09_expression_theLastOfAll() {
        Run r = worldWithTold();
        for (int i = 11; i < 119; i++) {
            r.name(0);
        }
        r.refused(BAD, Run.Op.INFER, 119);
        r.lambda(0, 118);
        r.refused(BAD, Run.Op.INFER, 120);
        r.typed(119, IDENTITY, NONE, 0);
    }

    /** A LAMBDA in a LAMBDA and so on: so many nodes in all. */
    private static int lambdas(Run r, int nodes) {
        int e = r.name(0);
        for (int i = 1; i < nodes; i++) {
            e = r.lambda(0, e);
        }
        return e;
    }

    /** "An expression with more than 24 nodes so is TOO LARGE": of LAMBDAs. */
    static void promise09_tooLarge_lambdas() {
        Run r = worldWithTold();
        r.due(45, Run.Op.INFER, lambdas(r, 23));
        int most = lambdas(r, 24);
        r.due(47, Run.Op.INFER, most);
        r.refused(FULL, Run.Op.INFER, r.lambda(0, most));
        r.refused(FULL, Run.Op.INFER, lambdas(r, 26));
    }

    /** The identity, applied to itself and so on: so many nodes in all. */
    private static int applies(Run r, int nodes) {
        int function = r.constant(V0_TO_V0);
        int e = nodes % 2 == 1 ? r.constant(V0_TO_V0) : r.lambda(0, r.name(0));
        for (int i = nodes % 2 == 1 ? 1 : 2; i < nodes; i += 2) {
            e = r.apply(function, e);
        }
        return e;
    }

    /** "more than 24 nodes": of APPLYs. */
    static void promise09_tooLarge_applies() {
        Run r = worldWithTold();
        r.typed(applies(r, 23), IDENTITY, NONE, 0);
        r.typed(applies(r, 24), IDENTITY, NONE, 0);
        r.refused(FULL, Run.Op.INFER, applies(r, 25));
        r.refused(FULL, Run.Op.INFER, applies(r, 26));
    }

    /** "more than 24 nodes": of a LET those of its e count, and those of its f, also when x is not used. */
    static void promise09_tooLarge_lets() {
        Run r = worldWithTold();
        int eleven = lambdas(r, 11);
        int twelve = r.lambda(0, eleven);
        r.due(21, Run.Op.INFER, r.let(1, eleven, eleven));
        r.due(23, Run.Op.INFER, r.let(1, eleven, twelve));
        r.due(21, Run.Op.INFER, r.let(1, twelve, eleven));
        r.refused(FULL, Run.Op.INFER, r.let(1, twelve, twelve));
        int most = lambdas(r, 22);
        r.due(1, Run.Op.INFER, r.let(1, most, r.constant(OF_INT)));
        r.refused(FULL, Run.Op.INFER, r.let(1, r.lambda(0, most), r.constant(OF_INT)));
    }

    /** "One expression may be a part of several; it is typed anew for each of them": and counts for each. */
    static void promise09_tooLarge_sharedPartsCountEachTime() {
        Run r = worldWithTold();
        int eleven = applies(r, 11);
        int twelve = applies(r, 12);
        r.typed(r.apply(eleven, eleven), IDENTITY, NONE, 0);
        r.typed(r.apply(eleven, twelve), IDENTITY, NONE, 0);
        r.typed(r.apply(twelve, eleven), IDENTITY, NONE, 0);
        r.refused(FULL, Run.Op.INFER, r.apply(twelve, twelve));
    }

    /** The nodes of an expression count, not those of the types in it. */
    static void promise09_tooLarge_nodesOfTypesDoNotCount() {
        Run r = world();
        int t = V0;
        for (int i = 1; i < 16; i++) {
            t = r.type(LIST, t, 0);
        }
        int e = r.constant(t);
        int unused = r.constant(t);
        for (int i = 0; i < 11; i++) {
            e = r.let(0, unused, e);
        }
        r.due(16, Run.Op.INFER, e);
        r.due(18, Run.Op.INFER, r.lambda(0, e));
        r.refused(FULL, Run.Op.INFER, r.let(0, unused, e));
    }

    /** "more than 24 nodes": also when they are more than an int or a long can count. */
    static void promise09_tooLarge_countWrapsAround() {
        Run r = new Run();
        int e = r.name(0);
        for (int i = 1; i < 119; i++) {
            e = r.apply(e, e);
        }
        int whole = r.let(0, e, e);
        for (int i = 0; i < 120; i++) {
            r.due(i < 4 ? NO : FULL, Run.Op.INFER, i);
        }
        r.refused(FULL, Run.Op.INFER, whole);
    }

    /** "Before these: BAD .., FULL when it is TOO LARGE": before NO, LACKS and AMBIGUOUS. */
    static void promise09_tooLarge_beforeTheOthers() {
        Run r = worldWithTold();
        int large = lambdas(r, 22);
        int lacking = r.apply(r.methodOf(EQ), r.constant(OF_INT));
        int ambiguous = r.apply(r.methodOf(EQ), r.constant(V0));
        r.refused(NO, Run.Op.INFER, r.let(1, r.name(1), lambdas(r, 22)));
        r.refused(FULL, Run.Op.INFER, r.let(1, r.name(1), r.lambda(0, large)));
        r.refused(FULL, Run.Op.INFER, r.let(1, lacking, large));
        r.refused(FULL, Run.Op.INFER, r.let(1, ambiguous, large));
        int fewer = lambdas(r, 20);
        r.refused(LACKS, Run.Op.INFER, r.let(1, lacking, fewer));
        r.refused(AMBIGUOUS, Run.Op.INFER, r.let(1, ambiguous, fewer));
    }

    /** "how many nodes its type has": one is the fewest. */
    static void promise09_nodes_oneIsTheFewest() {
        Run r = worldWithTold();
        r.typed(r.constant(V1), new int[] {-1}, NONE, 0);
        r.typed(r.constant(OF_INT), new int[] {INT}, NONE, 0);
        r.typed(r.constant(LIST_V0), new int[] {LIST, -1}, NONE, 0);
    }

    private static void typeOfSize(long nodes, int due) {
        Run r = new Run();
        Sized type = Sized.of(nodes);
        r.due(due, Run.Op.INFER, type.make(r));
        long[] places = {0, 1, 2, 31, 1000, BILLION - 2, BILLION - 1, BILLION, BILLION + 1,
            Integer.MAX_VALUE - 1, Integer.MAX_VALUE, nodes / 2, nodes - 2, nodes - 1, nodes, nodes + 1};
        for (long place : places) {
            if (place <= Integer.MAX_VALUE) {
                r.due(place < nodes ? type.nodeAt(place) : -100, Run.Op.SHAPE, (int) place);
            }
        }
        r.due(-100, Run.Op.SHAPE, -1);
        r.due(-100, Run.Op.SHAPE, Integer.MIN_VALUE);
        r.due(0, Run.Op.WANTS);
        r.due(0, Run.Op.PASSES);
    }

    /** "1000000000 at most": one below it. */
    static void promise09_nodes_oneBelowABillion() {
        typeOfSize(BILLION - 2, BILLION - 2);
        typeOfSize(BILLION - 1, BILLION - 1);
    }

    /** "1000000000 at most": exactly that. */
    static void promise09_nodes_aBillion() {
        typeOfSize(BILLION, BILLION);
    }

    /** "1000000000 at most": one beyond it, and two. */
    static void promise09_nodes_oneBeyondABillion() {
        typeOfSize(BILLION + 1, BILLION);
        typeOfSize(BILLION + 2, BILLION);
    }

    /** "1000000000 at most": at the largest int and beyond it. */
    static void promise09_nodes_beyondAnInt() {
        for (long more = -2; more <= 2; more++) {
            typeOfSize(Integer.MAX_VALUE + more, BILLION);
        }
    }

    /** "1000000000 at most": where an int would have come round to small numbers. */
    static void promise09_nodes_whereAnIntComesRound() {
        for (long more = -1; more <= 5; more++) {
            typeOfSize((1L << 32) + more, BILLION);
        }
        typeOfSize((1L << 32) + BILLION, BILLION);
    }

    /** "1000000000 at most": more than 2^70 nodes. */
    static void promise09_nodes_beyondALong() {
        Run r = new Run();
        Sized type = Sized.beyondLong();
        r.due(BILLION, Run.Op.INFER, type.makeByFives(r));
        int[] places = {0, 1, 2, 6, 7, 100, 174, 175, 176, 200, 1000, 123456789, BILLION - 1,
            Integer.MAX_VALUE - 1, Integer.MAX_VALUE};
        for (int place : places) {
            r.due(type.nodeAt(place), Run.Op.SHAPE, place);
        }
        r.due(-100, Run.Op.SHAPE, -1);
    }

    /** "NO, LACKS, AMBIGUOUS, BAD, FULL leave it" */
    static void promise09_refused_leavesWhatIsTold() {
        Run r = worldWithTold();
        int[] shape = {ARROW, -1, ARROW, -2, INT};
        int[] wants = {EQ, 0, SHOW, 1};
        r.refused(NO, Run.Op.INFER, r.name(0));
        r.told(shape, wants, 2);
        r.refused(LACKS, Run.Op.INFER, r.apply(r.methodOf(EQ), r.constant(OF_INT)));
        r.told(shape, wants, 2);
        r.refused(AMBIGUOUS, Run.Op.INFER, r.apply(r.methodOf(EQ), r.constant(V0)));
        r.told(shape, wants, 2);
        r.refused(BAD, Run.Op.INFER, 100);
        r.told(shape, wants, 2);
        r.refused(FULL, Run.Op.INFER, lambdas(r, 25));
        r.told(shape, wants, 2);
        r.typed(r.constant(OF_INT), new int[] {INT}, NONE, 0);
    }

    /** "What is told below is of the latest one that was answered with nodes": when there is none, of none. */
    static void promise09_refused_leavesThatNothingIsTold() {
        Run r = world();
        r.refused(NO, Run.Op.INFER, r.name(0));
        r.refused(LACKS, Run.Op.INFER, r.apply(r.methodOf(EQ), r.constant(OF_INT)));
        r.refused(AMBIGUOUS, Run.Op.INFER, r.apply(r.methodOf(EQ), r.constant(V0)));
        r.told(NONE, NONE, 0);
    }

    /** "the latest one": of a type with fewer nodes nothing of the one before it is left. */
    static void promise09_latest_fewerNodesAfterMore() {
        Run r = worldWithTold();
        r.typed(r.constant(OF_INT), new int[] {INT}, NONE, 0);
        r.typed(10, new int[] {ARROW, -1, ARROW, -2, INT}, new int[] {EQ, 0, SHOW, 1}, 2);
        r.typed(r.methodOf(ORD), IDENTITY, new int[] {ORD, 0}, 1);
    }

    /** "What is told below is of the latest one": what is made after it, or asked, leaves that. */
    static void promise09_latest_whatIsMadeLaterLeavesIt() {
        Run r = worldWithTold();
        int[] shape = {ARROW, -1, ARROW, -2, INT};
        int[] wants = {EQ, 0, SHOW, 1};
        r.constructor(1);
        r.type(ARROW, r.variable(7), V0);
        r.told(shape, wants, 2);
        int below = r.class0(SHOW);
        r.method(below, V0);
        r.told(shape, wants, 2);
        r.instance(EQ, INT, 0, 0);
        r.instance(SHOW, ARROW, 1, 1);
        r.told(shape, wants, 2);
        r.let(0, r.methodOf(below), r.name(0));
        r.due(1, Run.Op.IS, EQ, OF_INT);
        r.told(shape, wants, 2);
    }

    /** "LACKS": by the instances that there are when it is typed, not by those when it was made. */
    static void promise09_latest_instancesMadeSince() {
        Run r = world();
        int e = r.apply(r.methodOf(EQ), r.lambda(0, r.apply(r.constant(INT_TO_V0), r.name(0))));
        r.refused(LACKS, Run.Op.INFER, e);
        r.instance(EQ, ARROW, 1 << EQ, 0);
        r.refused(LACKS, Run.Op.INFER, e);
        r.instance(EQ, INT, 0, 0);
        r.typed(e, new int[] {INT}, NONE, 1);
    }

    /** "An expression is typed": as it is when it is the first one, whatever was typed, or refused, before it. */
    static void promise09_latest_nothingIsLeftOfTheOneBefore() {
        Run r = world();
        r.instance(EQ, LIST, 1 << EQ, 0);
        r.instance(SHOW, PAIR, 1 << EQ, 1 << SHOW);
        int most = expressionsOfManyKinds(r);
        for (int e = 0; e < most; e++) {
            List<Integer> alone = r.toldAfter(-1, e);
            for (int before = 0; before < most; before++) {
                if (!r.toldAfter(before, e).equals(alone)) {
                    fault("after infer(" + before + "), infer(" + e + ") and what is told of it are not as alone");
                }
            }
        }
    }

    private static int expressionsOfManyKinds(Run r) {
        int y = r.name(0);
        int z = r.name(1);
        int pairing = pairing(r);
        int eq = r.methodOf(EQ);
        int show = r.methodOf(SHOW);
        int ord = r.methodOf(ORD);
        int list = r.constant(LIST_V0);
        int any = r.constant(V0);
        int identity = r.lambda(0, y);
        int copied = r.let(1, identity, r.apply(z, z));
        int lost = r.apply(eq, any);
        int lists = r.apply(show, r.apply(r.apply(pairing, list), list));
        int bound = r.lambda(0, r.let(1, r.apply(eq, y), pairOf(r, pairing, y, z)));
        int wide = r.let(1, ord, pairOf(r, pairing, z, pairOf(r, pairing, z, copied)));
        int deep = r.lambda(0, r.lambda(1, r.apply(ord, pairOf(r, pairing, y, z))));
        r.lambda(0, lost);
        r.lambda(0, r.lambda(1, lost));
        r.let(0, lost, wide);
        r.lambda(0, r.apply(eq, r.apply(y, any)));
        r.let(0, r.lambda(1, r.apply(eq, r.apply(pairing, z))), bound);
        r.lambda(0, r.apply(y, y));
        r.apply(r.constant(OF_INT), deep);
        r.apply(eq, list);
        r.apply(show, pairOf(r, pairing, list, any));
        r.lambda(0, r.apply(show, pairOf(r, pairing, y, y)));
        r.let(0, lists, bound);
        r.let(1, identity, lost);
        r.lambda(0, pairOf(r, pairing, y, lost));
        pairOf(r, pairing, identity, lost);
        pairOf(r, pairing, lost, pairOf(r, pairing, any, identity));
        r.apply(r.lambda(1, identity), lost);
        r.lambda(0, r.lambda(1, pairOf(r, pairing, r.apply(eq, r.apply(y, z)), z)));
        pairOf(r, pairing, lost, lost);
        return r.call(Run.Op.EXPRESSIONS);
    }

    /** "NO (none), else LACKS (anywhere), else AMBIGUOUS (anywhere)": each with each, either one first. */
    static void promise09_order_noThenLacksThenAmbiguous() {
        Run r = worldWithTold();
        int one = r.constant(OF_INT);
        int none = r.apply(one, one);
        int lacking = r.apply(r.methodOf(EQ), one);
        int ambiguous = r.apply(r.methodOf(EQ), r.constant(V0));
        r.refused(NO, Run.Op.INFER, r.let(0, none, lacking));
        r.refused(NO, Run.Op.INFER, r.let(0, lacking, none));
        r.refused(NO, Run.Op.INFER, r.let(0, none, ambiguous));
        r.refused(NO, Run.Op.INFER, r.let(0, ambiguous, none));
        r.refused(LACKS, Run.Op.INFER, r.let(0, lacking, ambiguous));
        r.refused(LACKS, Run.Op.INFER, r.let(0, ambiguous, lacking));
        r.refused(NO, Run.Op.INFER, r.let(0, ambiguous, r.let(0, lacking, none)));
        r.refused(NO, Run.Op.INFER, r.let(0, none, r.let(0, ambiguous, lacking)));
        r.due(1, Run.Op.INFER, r.let(0, one, one));
    }

    /** "LACKS (anywhere)": in a LET's e that is used, in one that is not, in its f, in an argument, under a LAMBDA. */
    static void promise09_lacks_anywhere() {
        Run r = worldWithTold();
        int one = r.constant(OF_INT);
        int lacking = r.apply(r.methodOf(EQ), one);
        r.refused(LACKS, Run.Op.INFER, lacking);
        r.refused(LACKS, Run.Op.INFER, r.let(0, lacking, r.name(0)));
        r.refused(LACKS, Run.Op.INFER, r.let(0, lacking, one));
        r.refused(LACKS, Run.Op.INFER, r.let(0, one, lacking));
        r.refused(LACKS, Run.Op.INFER, r.apply(r.constant(V0_TO_INT), lacking));
        r.refused(LACKS, Run.Op.INFER, r.lambda(0, lacking));
        r.refused(LACKS, Run.Op.INFER, r.let(0, r.methodOf(EQ), r.apply(r.name(0), one)));
        int instance = r.instance(EQ, INT, 0, 0);
        equal("the instance", instance, 0);
        r.due(1, Run.Op.INFER, r.let(0, lacking, lacking));
    }

    /** "AMBIGUOUS (anywhere)": in the same places. */
    static void promise09_ambiguous_anywhere() {
        Run r = worldWithTold();
        int one = r.constant(OF_INT);
        int ambiguous = r.apply(r.methodOf(EQ), r.constant(V0));
        r.refused(AMBIGUOUS, Run.Op.INFER, ambiguous);
        r.refused(AMBIGUOUS, Run.Op.INFER, r.let(0, ambiguous, r.name(0)));
        r.refused(AMBIGUOUS, Run.Op.INFER, r.let(0, ambiguous, one));
        r.refused(AMBIGUOUS, Run.Op.INFER, r.let(0, one, ambiguous));
        r.refused(AMBIGUOUS, Run.Op.INFER, r.apply(r.constant(V0_TO_INT), ambiguous));
        r.refused(AMBIGUOUS, Run.Op.INFER, r.lambda(0, ambiguous));
    }

    // Promise 10: shape

    /** "-100 when there is none": before there is a type, all of them. */
    static void promise10_none_beforeThereIsAType() {
        Run r = world();
        r.due(-100, Run.Op.SHAPE, 0);
        r.due(-100, Run.Op.SHAPE, 1);
        r.due(-100, Run.Op.SHAPE, -1);
        for (int far : FAR) {
            r.due(-100, Run.Op.SHAPE, far);
        }
    }

    /** "-100 when there is none": below the first and beyond the last. */
    static void promise10_none_belowFirstAndBeyondLast() {
        Run r = worldWithTold();
        r.changesNothing(-100, Run.Op.SHAPE, -1);
        r.changesNothing(ARROW, Run.Op.SHAPE, 0);
        r.changesNothing(INT, Run.Op.SHAPE, 4);
        r.changesNothing(-100, Run.Op.SHAPE, 5);
        for (int far : FAR) {
            r.changesNothing(-100, Run.Op.SHAPE, far);
        }
    }

    /** "-100 when there is none": of a type of one node only node 0 is there. */
    static void promise10_none_besideTheOnlyNode() {
        Run r = worldWithTold();
        r.infer(r.constant(V1));
        r.due(-1, Run.Op.SHAPE, 0);
        r.due(-100, Run.Op.SHAPE, 1);
        r.due(-100, Run.Op.SHAPE, -1);
    }

    /** "the whole first, then the first part, then the second one, all their parts likewise" */
    static void promise10_order_wholeFirstSecond() {
        Run r = worldWithTold();
        int list = r.type(LIST, OF_INT, 0);
        int left = r.type(PAIR, list, V1);
        int right = r.type(ARROW, V0, r.type(LIST, V1, 0));
        r.typed(r.constant(r.type(PAIR, left, right)), new int[] {PAIR, PAIR, LIST, INT, -1, ARROW, -2, LIST, -1},
            NONE, 0);
    }

    /** "v by where it stands first (from 0)": whatever its number was. */
    static void promise10_variables_byWhereTheyStandFirst() {
        Run r = worldWithTold();
        int seven = r.variable(7);
        int t = r.type(PAIR, r.type(PAIR, seven, V1), r.type(PAIR, V1, r.type(PAIR, V0, seven)));
        r.typed(r.constant(t), new int[] {PAIR, PAIR, -1, -2, PAIR, -2, PAIR, -3, -1}, NONE, 0);
    }

    /** "-1 - v": with 128 variables v goes on beyond 7, and beyond 99, where -1 - v is -100. */
    static void promise10_variables_moreThanAHundred() {
        Run r = new Run();
        r.due(255, Run.Op.INFER, manyVariables(r));
        int[] shape = new int[255];
        int leaves = 0;
        for (int i = 0; i < 255; i++) {
            boolean leaf = isLeaf(i);
            leaves += leaf ? 1 : 0;
            shape[i] = leaf ? -leaves : 1;
        }
        equal("leaves", leaves, 128);
        for (int i = 0; i < 255; i++) {
            r.due(shape[i], Run.Op.SHAPE, i);
        }
        r.due(-100, Run.Op.SHAPE, 255);
    }

    /** Whether a node of the whole tree with 128 leaves is a leaf. */
    private static boolean isLeaf(int place) {
        int left = place;
        int size = 255;
        while (left > 0) {
            left--;
            size /= 2;
            left = left >= size ? left - size : left;
        }
        return size == 1;
    }

    // Promise 11: wants

    static void promise11_none_beforeThereIsAType() {
        Run r = world();
        r.due(0, Run.Op.WANTS);
        r.infer(r.name(0));
        r.due(0, Run.Op.WANTS);
    }

    /** "How many wants it has": none, one. */
    static void promise11_count_noneAndOne() {
        Run r = world();
        r.typed(r.constant(V0_TO_V0), IDENTITY, NONE, 0);
        r.typed(r.methodOf(ORD), IDENTITY, new int[] {ORD, 0}, 1);
        r.typed(r.constant(V0_TO_V0), IDENTITY, NONE, 0);
    }

    /** Eight classes with the method V0 -> V0, each above the next one or none above any. */
    private static Run eightClasses(boolean chained) {
        Run r = new Run();
        int t = r.type(ARROW, r.variable(0), 0);
        for (int c = 0; c < 8; c++) {
            r.class0(chained ? c - 1 : -1);
            r.method(c, t);
        }
        return r;
    }

    /** All eight methods of a name, one after another. */
    private static int allMethods(Run r, boolean upwards) {
        int e = r.name(0);
        for (int i = 0; i < 8; i++) {
            e = r.apply(r.methodOf(upwards ? i : 7 - i), e);
        }
        return r.lambda(0, e);
    }

    /** "only those stay under which no other one is": of eight that have nothing to do with one another all. */
    static void promise11_count_eightOnOneVariable() {
        Run r = eightClasses(false);
        int[] all = {0, 0, 1, 0, 2, 0, 3, 0, 4, 0, 5, 0, 6, 0, 7, 0};
        r.typed(allMethods(r, true), IDENTITY, all, 8);
        r.typed(allMethods(r, false), IDENTITY, all, 8);
    }

    /** "only those stay under which no other one is": of a chain of eight the last one. */
    static void promise11_count_ofAChainTheLowest() {
        Run r = eightClasses(true);
        r.typed(allMethods(r, true), IDENTITY, new int[] {7, 0}, 8);
        r.typed(allMethods(r, false), IDENTITY, new int[] {7, 0}, 8);
        r.typed(r.lambda(0, r.apply(r.methodOf(0), r.apply(r.methodOf(6), r.name(0)))), IDENTITY,
            new int[] {6, 0}, 2);
    }

    /** "only those stay under which no other one is": of two chains the last one of each. */
    static void promise11_count_ofTwoChainsTheLowestOfEach() {
        Run r = new Run();
        int t = r.type(ARROW, r.variable(0), 0);
        int[] above = {-1, -1, 0, 1, 2, 3, 4, 5};
        for (int c = 0; c < 8; c++) {
            r.class0(above[c]);
            r.method(c, t);
        }
        r.typed(allMethods(r, true), IDENTITY, new int[] {6, 0, 7, 0}, 8);
        int some = r.apply(r.methodOf(0), r.apply(r.methodOf(2), r.apply(r.methodOf(1), r.name(0))));
        r.typed(r.lambda(0, some), IDENTITY, new int[] {1, 0, 2, 0}, 3);
    }

    /** "of equal ones one" */
    static void promise11_count_ofEqualOnesOne() {
        Run r = world();
        int twice = r.lambda(0, r.apply(r.methodOf(ORD), r.apply(r.methodOf(ORD), r.name(0))));
        r.typed(twice, IDENTITY, new int[] {ORD, 0}, 2);
    }

    /** "Of wants on one variable": one on another variable does not matter. */
    static void promise11_count_onEachVariable() {
        Run r = world();
        int pairing = pairing(r);
        int both = pairOf(r, pairing, r.apply(r.methodOf(EQ), r.name(0)), r.apply(r.methodOf(ORD), r.name(1)));
        r.typed(r.lambda(0, r.lambda(1, both)), new int[] {ARROW, -1, ARROW, -2, PAIR, INT, -2},
            new int[] {EQ, 0, ORD, 1}, 2);
    }

    /** With 128 variables: as many wants as copies. */
    static void promise11_count_ofManyCopies() {
        Run r = new Run();
        r.infer(manyVariables(r));
        r.due(16, Run.Op.WANTS);
        for (int i = 0; i < 16; i++) {
            r.due(0, Run.Op.WANT, i, 0);
            r.due(8 * i + 7, Run.Op.WANT, i, 1);
        }
        r.due(BAD, Run.Op.WANT, 16, 0);
        r.due(1 + 4 + 16, Run.Op.PASSES);
    }

    // Promise 12: want

    /** "BAD": before there is a type, and of one without wants. */
    static void promise12_none_noWants() {
        Run r = world();
        r.due(BAD, Run.Op.WANT, 0, 0);
        r.due(BAD, Run.Op.WANT, 0, 1);
        r.infer(r.constant(V0));
        r.due(BAD, Run.Op.WANT, 0, 0);
        r.due(BAD, Run.Op.WANT, 0, 1);
        r.due(BAD, Run.Op.WANT, -1, 0);
    }

    /** "Want i (from 0 ..)" */
    static void promise12_i_firstAndLast() {
        Run r = worldWithTold();
        for (int what = 0; what <= 1; what++) {
            r.refused(BAD, Run.Op.WANT, -1, what);
            r.refused(BAD, Run.Op.WANT, 2, what);
            for (int far : FAR) {
                r.refused(BAD, Run.Op.WANT, far, what);
            }
        }
        r.changesNothing(EQ, Run.Op.WANT, 0, 0);
        r.changesNothing(SHOW, Run.Op.WANT, 1, 0);
    }

    /** "its class (what = 0), its variable (1)" */
    static void promise12_what_noughtAndOne() {
        Run r = worldWithTold();
        for (int i = 0; i <= 1; i++) {
            r.refused(BAD, Run.Op.WANT, i, -1);
            r.refused(BAD, Run.Op.WANT, i, 2);
            for (int far : FAR) {
                r.refused(BAD, Run.Op.WANT, i, far);
            }
        }
        r.changesNothing(EQ, Run.Op.WANT, 0, 0);
        r.changesNothing(0, Run.Op.WANT, 0, 1);
        r.changesNothing(SHOW, Run.Op.WANT, 1, 0);
        r.changesNothing(1, Run.Op.WANT, 1, 1);
    }

    /** "by their variables, then classes": the variables by where they stand first. */
    static void promise12_order_variablesThenClasses() {
        Run r = world();
        int pairing = pairing(r);
        int show = r.methodOf(SHOW);
        int eq = r.methodOf(EQ);
        int first = pairOf(r, pairing, r.apply(show, r.name(1)), r.apply(eq, r.name(1)));
        int second = pairOf(r, pairing, r.apply(show, r.name(0)), r.apply(eq, r.name(0)));
        int both = r.lambda(0, r.lambda(1, pairOf(r, pairing, first, second)));
        r.typed(both, new int[] {ARROW, -1, ARROW, -2, PAIR, PAIR, INT, INT, PAIR, INT, INT},
            new int[] {EQ, 0, SHOW, 0, EQ, 1, SHOW, 1}, 4);
    }

    // Promise 13: passes

    static void promise13_none_beforeThereIsAType() {
        Run r = world();
        r.due(0, Run.Op.PASSES);
        r.infer(r.apply(r.methodOf(EQ), r.constant(OF_INT)));
        r.due(0, Run.Op.PASSES);
    }

    /** "for each METHOD node one": none, one, two; one expression that is a part twice is two nodes. */
    static void promise13_methods_eachNode() {
        Run r = world();
        int pairing = pairing(r);
        int eq = r.methodOf(EQ);
        r.typed(r.constant(V0_TO_INT), new int[] {ARROW, -1, INT}, NONE, 0);
        r.typed(eq, new int[] {ARROW, -1, INT}, new int[] {EQ, 0}, 1);
        r.typed(pairOf(r, pairing, eq, eq), new int[] {PAIR, ARROW, -1, INT, ARROW, -2, INT},
            new int[] {EQ, 0, EQ, 1}, 2);
    }

    /** "for each METHOD node one": also where it leaves no want behind. */
    static void promise13_methods_withoutAWantLeft() {
        Run r = world();
        r.instance(EQ, INT, 0, 0);
        r.typed(r.apply(r.methodOf(EQ), r.constant(OF_INT)), new int[] {INT}, NONE, 1);
    }

    /** "for each NAME node of a LET as many as wants belong to that x": none. */
    static void promise13_names_withoutWants() {
        Run r = world();
        r.typed(r.let(0, r.constant(V0_TO_V0), r.apply(r.name(0), r.name(0))), IDENTITY, NONE, 0);
    }

    /** "as many as wants belong to that x": one, for each of no, one, two nodes. */
    static void promise13_names_withOneWant() {
        Run r = world();
        r.instance(EQ, INT, 0, 0);
        r.instance(ORD, INT, 0, 0);
        int one = r.constant(OF_INT);
        int ord = r.methodOf(ORD);
        int once = r.apply(r.name(0), one);
        r.typed(r.let(0, ord, one), new int[] {INT}, NONE, 1);
        r.typed(r.let(0, ord, once), new int[] {INT}, NONE, 2);
        r.typed(r.let(0, ord, r.apply(r.name(0), once)), new int[] {INT}, NONE, 3);
    }

    /** "as many as wants belong to that x": eight on one variable. */
    static void promise13_names_withEightWants() {
        Run r = eightClasses(false);
        r.due(3, Run.Op.INFER, r.let(1, allMethods(r, true), r.name(1)));
        r.due(16, Run.Op.PASSES);
        for (int c = 0; c < 8; c++) {
            r.instance(c, ARROW, 0, 0);
        }
        r.due(3, Run.Op.INFER, r.let(1, allMethods(r, true), r.apply(r.name(1), r.name(1))));
        r.due(24, Run.Op.PASSES);
        r.due(8, Run.Op.WANTS);
    }

    /** "Of wants on one variable only those stay under which no other one is": so one belongs to x. */
    static void promise13_names_withTheWantThatStays() {
        Run r = eightClasses(true);
        r.due(3, Run.Op.INFER, r.let(1, allMethods(r, true), r.name(1)));
        r.due(9, Run.Op.PASSES);
    }

    /** "each node counts once": what is in an e, however often its x is used. */
    static void promise13_nodes_ofAnEOnce() {
        Run r = world();
        int pairing = pairing(r);
        int used = pairOf(r, pairing, r.name(0), pairOf(r, pairing, r.name(0), r.name(0)));
        int e = r.lambda(1, r.apply(r.methodOf(ORD), r.apply(r.methodOf(ORD), r.name(1))));
        r.due(11, Run.Op.INFER, r.let(0, e, used));
        r.due(2 + 3, Run.Op.PASSES);
        r.due(3, Run.Op.WANTS);
    }

    /** "those in an e whose x is not used too": METHOD nodes, and NAME nodes of a LET around. */
    static void promise13_nodes_ofAnEThatIsNotUsed() {
        Run r = world();
        int one = r.constant(OF_INT);
        int inner = r.let(1, r.name(0), one);
        r.typed(r.let(0, r.methodOf(ORD), inner), new int[] {INT}, NONE, 2);
        r.typed(r.let(0, r.methodOf(ORD), r.let(1, r.methodOf(EQ), one)), new int[] {INT}, NONE, 2);
        r.typed(r.let(0, r.methodOf(ORD), r.let(1, r.name(0), r.let(2, r.name(1), one))), new int[] {INT}, NONE, 3);
    }

    /** "NAME node of a LET": one of a LAMBDA hands over nothing, whatever is wanted of its type. */
    static void promise13_names_ofALambda() {
        Run r = world();
        r.typed(r.lambda(0, r.apply(r.methodOf(ORD), r.name(0))), IDENTITY, new int[] {ORD, 0}, 1);
        int shadowed = r.let(0, r.methodOf(ORD), r.lambda(0, r.name(0)));
        r.typed(shadowed, IDENTITY, NONE, 1);
    }

    /** "as many as wants belong to that x": those on variables that are not open do not. */
    static void promise13_names_withWantsThatAreNotOpen() {
        Run r = world();
        int pairing = pairing(r);
        int used = pairOf(r, pairing, r.name(1), r.name(1));
        int let = r.let(1, r.apply(r.methodOf(ORD), r.name(0)), used);
        r.typed(r.lambda(0, let), new int[] {ARROW, -1, PAIR, -1, -1}, new int[] {ORD, 0}, 1);
    }

    /** "those on open ones that are in e's type belong to x": to this x alone, not to one around it too. */
    static void promise13_names_withoutWhatBelongsToAnInnerLet() {
        Run r = world();
        int unused = r.let(0, r.methodOf(ORD), r.constant(V0_TO_V0));
        r.typed(r.let(1, unused, r.name(1)), IDENTITY, NONE, 1);
        int used = r.let(0, r.methodOf(ORD), r.name(0));
        r.typed(r.let(1, used, r.name(1)), IDENTITY, new int[] {ORD, 0}, 3);
        r.typed(r.let(1, used, r.constant(OF_INT)), new int[] {INT}, NONE, 2);
    }

    // Terms: EXPRESSIONS and TYPING

    /** "if .. a NAME has nothing around it, there is NO type" */
    static void terms_name_nothingAround() {
        Run r = worldWithTold();
        int y = r.name(0);
        r.refused(NO, Run.Op.INFER, y);
        r.refused(NO, Run.Op.INFER, r.lambda(1, y));
        r.refused(NO, Run.Op.INFER, r.apply(r.lambda(0, y), y));
        r.refused(NO, Run.Op.INFER, r.apply(r.constant(V0_TO_V0), y));
        r.due(3, Run.Op.INFER, r.lambda(0, y));
    }

    /** "for LET: around means in its f" */
    static void terms_let_isNotAroundItsE() {
        Run r = worldWithTold();
        int y = r.name(0);
        r.refused(NO, Run.Op.INFER, r.let(0, y, y));
        r.refused(NO, Run.Op.INFER, r.let(0, y, r.constant(OF_INT)));
        r.typed(r.lambda(0, r.let(0, y, y)), IDENTITY, NONE, 0);
        r.typed(r.let(0, r.constant(OF_INT), r.let(0, y, y)), new int[] {INT}, NONE, 0);
    }

    /** "the innermost LAMBDA or LET around it that has that x" */
    static void terms_name_innermost() {
        Run r = worldWithTold();
        int y = r.name(0);
        int one = r.constant(OF_INT);
        int list = r.constant(LIST_V0);
        r.typed(r.lambda(0, r.lambda(0, y)), new int[] {ARROW, -1, ARROW, -2, -2}, NONE, 0);
        r.typed(r.lambda(0, r.lambda(1, y)), new int[] {ARROW, -1, ARROW, -2, -1}, NONE, 0);
        r.typed(r.let(0, one, r.let(0, list, y)), new int[] {LIST, -1}, NONE, 0);
        r.typed(r.let(0, one, r.let(1, list, y)), new int[] {INT}, NONE, 0);
        r.typed(r.let(0, one, r.lambda(0, y)), IDENTITY, NONE, 0);
        r.typed(r.lambda(0, r.let(0, one, y)), new int[] {ARROW, -1, INT}, NONE, 0);
    }

    /** The x of one part is not around the part beside it. */
    static void terms_name_notAroundBeside() {
        Run r = worldWithTold();
        int pairing = pairing(r);
        int one = r.constant(OF_INT);
        int y = r.name(0);
        r.refused(NO, Run.Op.INFER, pairOf(r, pairing, r.lambda(0, y), y));
        r.refused(NO, Run.Op.INFER, pairOf(r, pairing, r.let(0, one, y), y));
        r.refused(NO, Run.Op.INFER, r.let(1, r.lambda(0, y), y));
        r.due(3, Run.Op.INFER, r.let(0, one, pairOf(r, pairing, y, y)));
    }

    /** "an arrow from the type of x, one for all of e" */
    static void terms_lambda_oneTypeForAllOfE() {
        Run r = worldWithTold();
        int y = r.name(0);
        int pairing = pairing(r);
        int one = r.apply(y, r.constant(OF_INT));
        int list = r.apply(y, r.constant(LIST_V0));
        r.refused(NO, Run.Op.INFER, r.lambda(0, pairOf(r, pairing, one, list)));
        r.refused(NO, Run.Op.INFER, r.lambda(0, r.apply(y, y)));
        r.due(7, Run.Op.INFER, r.lambda(0, pairOf(r, pairing, one, one)));
    }

    /** "e's is an arrow from f's to its own": another constructor is none. */
    static void terms_apply_hasToBeAnArrow() {
        Run r = worldWithTold();
        int one = r.constant(OF_INT);
        r.refused(NO, Run.Op.INFER, r.apply(one, one));
        r.refused(NO, Run.Op.INFER, r.apply(r.constant(PAIR_V0_V1), one));
        r.refused(NO, Run.Op.INFER, r.apply(r.constant(INT_TO_V0), r.constant(LIST_V0)));
        r.typed(r.apply(r.constant(INT_TO_V0), one), new int[] {-1}, NONE, 0);
        r.typed(r.apply(r.constant(V0), one), new int[] {-1}, NONE, 0);
    }

    /** "if there are none": a type that is a part of itself is none, at once or by way of others. */
    static void terms_types_noneIsAPartOfItself() {
        Run r = worldWithTold();
        int y = r.name(0);
        int z = r.name(1);
        int same = r.constant(r.type(ARROW, V0, V0_TO_V0));
        int list = r.constant(r.type(ARROW, V0, LIST_V0));
        int pairing = pairing(r);
        r.refused(NO, Run.Op.INFER, r.lambda(0, r.apply(y, y)));
        r.refused(NO, Run.Op.INFER, r.lambda(0, r.apply(r.apply(same, y), r.apply(list, y))));
        r.refused(NO, Run.Op.INFER, r.lambda(0, r.lambda(1, pairOf(r, pairing, r.apply(y, z), r.apply(z, y)))));
        r.refused(NO, Run.Op.INFER, r.let(2, r.lambda(0, r.apply(y, y)), r.constant(OF_INT)));
        r.typed(r.lambda(0, r.apply(r.apply(same, r.apply(list, y)), r.apply(list, y))),
            new int[] {ARROW, -1, LIST, -1}, NONE, 0);
    }

    /** "the most general ones": no variable is made equal to another one, nor to a constructor, without need. */
    static void terms_types_mostGeneral() {
        Run r = world();
        int x = r.name(0);
        int y = r.name(1);
        int z = r.name(2);
        int compose = r.lambda(0, r.lambda(1, r.lambda(2, r.apply(x, r.apply(y, z)))));
        r.typed(compose, new int[] {ARROW, ARROW, -1, -2, ARROW, ARROW, -3, -1, ARROW, -3, -2}, NONE, 0);
        int spread = r.lambda(0, r.lambda(1, r.lambda(2, r.apply(r.apply(x, z), r.apply(y, z)))));
        r.typed(spread, new int[] {ARROW, ARROW, -1, ARROW, -2, -3, ARROW, ARROW, -1, -2, ARROW, -1, -3}, NONE, 0);
        r.typed(r.lambda(0, r.lambda(1, x)), new int[] {ARROW, -1, ARROW, -2, -1}, NONE, 0);
    }

    /** "LET x e f: f's": whatever e's type is. */
    static void terms_let_hasTheTypeOfItsF() {
        Run r = world();
        r.typed(r.let(0, r.constant(LIST_V0), r.constant(OF_INT)), new int[] {INT}, NONE, 0);
        r.typed(r.let(0, r.constant(OF_INT), r.constant(LIST_V0)), new int[] {LIST, -1}, NONE, 0);
        r.typed(r.let(0, r.constant(OF_INT), r.lambda(1, r.name(0))), new int[] {ARROW, -1, INT}, NONE, 0);
    }

    /** "it is typed anew for each of them": one expression in two places has two types. */
    static void terms_part_typedAnewForEach() {
        Run r = worldWithTold();
        int y = r.name(0);
        int pairing = pairing(r);
        int identity = r.constant(V0_TO_V0);
        r.typed(r.apply(identity, identity), IDENTITY, NONE, 0);
        int both = pairOf(r, pairing, y, r.lambda(0, y));
        r.typed(r.let(0, r.constant(OF_INT), both), new int[] {PAIR, INT, ARROW, -1, -1}, NONE, 0);
    }

    /** "A COPY has fresh variables, one for each of its variables" */
    static void terms_copy_oneForEachVariable() {
        Run r = worldWithTold();
        int pairing = pairing(r);
        r.typed(r.constant(V0_TO_V0), IDENTITY, NONE, 0);
        r.typed(r.constant(r.type(ARROW, V1, V0)), new int[] {ARROW, -1, -2}, NONE, 0);
        r.typed(pairOf(r, pairing, r.constant(V0), r.constant(V0)), new int[] {PAIR, -1, -2}, NONE, 0);
        int ord = r.methodOf(ORD);
        r.typed(pairOf(r, pairing, ord, ord), new int[] {PAIR, ARROW, -1, -1, ARROW, -2, -2},
            new int[] {ORD, 0, ORD, 1}, 2);
    }

    /** "those variables are fresh ones that are OPEN": each NAME has a copy of its own. */
    static void terms_open_eachNameHasItsCopy() {
        Run r = worldWithTold();
        int y = r.name(0);
        r.typed(r.let(0, r.lambda(1, r.name(1)), r.apply(y, y)), IDENTITY, NONE, 0);
        r.refused(NO, Run.Op.INFER, r.apply(r.lambda(0, r.apply(y, y)), r.lambda(1, r.name(1))));
    }

    /** "in none of the types of the LAMBDA names around the LET": the name itself, and what it is applied to. */
    static void terms_open_notWhatLambdasAroundHave() {
        Run r = worldWithTold();
        int y = r.name(0);
        int z = r.name(1);
        r.refused(NO, Run.Op.INFER, r.lambda(0, r.let(1, y, r.apply(z, z))));
        int pairing = pairing(r);
        int one = r.apply(z, r.constant(OF_INT));
        int list = r.apply(z, r.constant(LIST_V0));
        int eta = r.lambda(2, r.apply(y, r.name(2)));
        r.refused(NO, Run.Op.INFER, r.lambda(0, r.let(1, eta, pairOf(r, pairing, one, list))));
        r.typed(r.lambda(0, r.let(1, eta, one)), new int[] {ARROW, ARROW, INT, -1, -1}, NONE, 0);
        r.typed(r.let(1, r.lambda(2, r.name(2)), pairOf(r, pairing, one, list)), new int[] {PAIR, INT, LIST, -1},
            NONE, 0);
    }

    /** "those variables are fresh ones that are OPEN": the others of the same type are not. */
    static void terms_open_someOfAType() {
        Run r = world();
        int pairing = pairing(r);
        int e = r.lambda(2, pairOf(r, pairing, r.name(0), r.name(2)));
        int one = r.apply(r.name(1), r.constant(OF_INT));
        int list = r.apply(r.name(1), r.constant(LIST_V0));
        int whole = r.lambda(0, r.let(1, e, pairOf(r, pairing, one, list)));
        r.typed(whole, new int[] {ARROW, -1, PAIR, PAIR, -1, INT, PAIR, -1, LIST, -2}, NONE, 0);
    }

    /** "LAMBDA names around the LET": also one whose x an inner one has too. */
    static void terms_open_notWhatAHiddenLambdaHas() {
        Run r = world();
        int z = r.name(1);
        int inner = r.let(1, r.name(2), r.apply(z, z));
        r.refused(NO, Run.Op.INFER, r.lambda(0, r.let(2, r.name(0), r.lambda(0, inner))));
        int wanting = r.let(1, r.apply(r.methodOf(EQ), r.name(2)), z);
        r.typed(r.lambda(0, r.let(2, r.name(0), r.lambda(0, wanting))), new int[] {ARROW, -1, ARROW, -2, INT},
            new int[] {EQ, 0}, 1);
    }

    /** "around the LET": a LAMBDA in its e or in its f is not. */
    static void terms_open_whatOtherLambdasHave() {
        Run r = world();
        int y = r.name(0);
        int z = r.name(1);
        r.typed(r.let(1, r.lambda(0, y), r.lambda(0, r.apply(z, z))), new int[] {ARROW, -1, ARROW, -2, -2}, NONE, 0);
        int inE = r.lambda(0, r.let(2, y, r.name(2)));
        r.typed(r.let(1, inE, r.apply(z, z)), IDENTITY, NONE, 0);
    }

    /** "those variables are fresh ones that are OPEN": one that a LAMBDA around gets to have before the LET. */
    static void terms_open_notWhatALambdaGotBefore() {
        Run r = world();
        int y = r.name(0);
        int w = r.name(3);
        int pairing = pairing(r);
        // y is applied to w before the LET, so that its type is an arrow of two variables, none of them open.
        int let = r.let(1, r.apply(y, w), r.apply(r.name(1), r.name(1)));
        r.refused(NO, Run.Op.INFER, r.lambda(0, r.lambda(3, pairOf(r, pairing, r.apply(y, w), let))));
        int good = r.let(1, r.apply(y, w), r.name(1));
        r.typed(r.lambda(0, r.lambda(3, good)), new int[] {ARROW, ARROW, -1, -2, ARROW, -1, -2}, NONE, 0);
    }

    // Terms: WANTS

    /** "where the type is a constructor with parts, by the instance": without parts none is left. */
    static void terms_wants_constructorWithoutParts() {
        Run r = worldWithTold();
        int e = r.apply(r.methodOf(EQ), r.constant(OF_INT));
        r.refused(LACKS, Run.Op.INFER, e);
        r.instance(EQ, INT, 7, 7);
        r.typed(e, new int[] {INT}, NONE, 1);
    }

    /** "what that wants of the parts": when it wants nothing of a variable, that can be told. */
    static void terms_wants_instanceThatWantsNothing() {
        Run r = worldWithTold();
        r.instance(EQ, LIST, 0, 0);
        r.typed(r.apply(r.methodOf(EQ), r.constant(LIST_V0)), new int[] {INT}, NONE, 1);
        r.instance(SHOW, LIST, 1 << EQ, 0);
        r.refused(AMBIGUOUS, Run.Op.INFER, r.apply(r.methodOf(SHOW), r.constant(LIST_V0)));
    }

    /** "what that wants of the parts": of the first and of the second one. */
    static void terms_wants_firstAndSecondPart() {
        Run r = world();
        r.instance(EQ, PAIR, 1 << SHOW, 1 << EQ | 1 << SHOW);
        int pairing = pairing(r);
        int e = r.apply(r.methodOf(EQ), pairOf(r, pairing, r.name(0), r.name(1)));
        r.typed(r.lambda(0, r.lambda(1, e)), new int[] {ARROW, -1, ARROW, -2, INT},
            new int[] {SHOW, 0, EQ, 1, SHOW, 1}, 1);
        int both = r.apply(r.methodOf(EQ), pairOf(r, pairing, r.name(0), r.name(0)));
        r.typed(r.lambda(0, both), new int[] {ARROW, -1, INT}, new int[] {EQ, 0, SHOW, 0}, 1);
    }

    /** "what that wants of the parts": when several classes are wanted, what each of their instances wants. */
    static void terms_wants_ofSeveralInstances() {
        Run r = world();
        int c = r.class0(-1);
        r.instance(EQ, LIST, 1 << EQ, 0);
        r.instance(SHOW, LIST, 1 << SHOW, 0);
        r.instance(c, LIST, 0, 0);
        r.instance(EQ, PAIR, 1 << EQ | 1 << SHOW | 1 << c, 0);
        int pairing = pairing(r);
        int list = r.apply(r.constant(r.type(ARROW, V0, LIST_V0)), r.name(0));
        int e = r.apply(r.methodOf(EQ), pairOf(r, pairing, list, r.constant(OF_INT)));
        r.typed(r.lambda(0, e), new int[] {ARROW, -1, INT}, new int[] {EQ, 0, SHOW, 0}, 1);
    }

    /** "if there is none, the expression LACKS it": also a part of a part, and only if it is wanted. */
    static void terms_wants_partThatLacks() {
        Run r = worldWithTold();
        r.instance(EQ, PAIR, 1 << EQ, 0);
        r.instance(EQ, INT, 0, 0);
        int pairing = pairing(r);
        int one = r.constant(OF_INT);
        int function = r.lambda(0, r.name(0));
        int eq = r.methodOf(EQ);
        r.refused(LACKS, Run.Op.INFER, r.apply(eq, pairOf(r, pairing, function, one)));
        r.refused(LACKS, Run.Op.INFER, r.apply(eq, pairOf(r, pairing, pairOf(r, pairing, function, one), one)));
        r.typed(r.apply(eq, pairOf(r, pairing, one, function)), new int[] {INT}, NONE, 1);
    }

    /** "if there is none": one of a class above is not enough. */
    static void terms_wants_instanceAboveIsNotEnough() {
        Run r = worldWithTold();
        int e = r.apply(r.methodOf(ORD), r.constant(OF_INT));
        r.instance(EQ, INT, 0, 0);
        r.refused(LACKS, Run.Op.INFER, e);
        r.instance(ORD, INT, 0, 0);
        r.typed(e, new int[] {INT}, NONE, 1);
    }

    /** "those on variables that are not open are wanted outside, once" */
    static void terms_wants_outsideOnce() {
        Run r = world();
        int pairing = pairing(r);
        int e = r.apply(r.methodOf(EQ), r.name(0));
        int used = pairOf(r, pairing, r.name(1), r.name(1));
        int[] shape = {ARROW, -1, PAIR, INT, INT};
        r.typed(r.lambda(0, r.let(1, e, used)), shape, new int[] {EQ, 0}, 1);
        int unused = r.let(1, e, r.constant(OF_INT));
        r.typed(r.lambda(0, unused), new int[] {ARROW, -1, INT}, new int[] {EQ, 0}, 1);
    }

    /** "wanted outside": by one LET and by another one. */
    static void terms_wants_outsideOfTwoLets() {
        Run r = world();
        int one = r.constant(OF_INT);
        int show = r.let(2, r.apply(r.methodOf(SHOW), r.name(0)), one);
        int both = r.let(1, r.apply(r.methodOf(EQ), r.name(0)), show);
        r.typed(r.lambda(0, both), new int[] {ARROW, -1, INT}, new int[] {EQ, 0, SHOW, 0}, 2);
    }

    /** "wanted outside": what the variable becomes there has, or lacks, or can't tell it. */
    static void terms_wants_outsideIsToldThere() {
        Run r = worldWithTold();
        int one = r.constant(OF_INT);
        int inner = r.lambda(0, r.let(1, r.apply(r.methodOf(EQ), r.name(0)), one));
        r.refused(LACKS, Run.Op.INFER, r.apply(inner, one));
        r.refused(AMBIGUOUS, Run.Op.INFER, r.apply(inner, r.constant(V0)));
        r.instance(EQ, INT, 0, 0);
        r.typed(r.apply(inner, one), new int[] {INT}, NONE, 1);
        r.refused(LACKS, Run.Op.INFER, r.apply(inner, r.constant(LIST_V0)));
    }

    /** "wanted outside": of a LET in a LET's e, by that one. */
    static void terms_wants_outsideBelongsToTheLetAround() {
        Run r = world();
        int inner = r.lambda(0, r.let(1, r.apply(r.methodOf(EQ), r.name(0)), r.name(0)));
        r.typed(r.let(2, inner, r.name(2)), IDENTITY, new int[] {EQ, 0}, 2);
        int unused = r.let(2, inner, r.constant(OF_INT));
        r.typed(unused, new int[] {INT}, NONE, 1);
        r.refused(AMBIGUOUS, Run.Op.INFER, r.let(2, r.apply(inner, r.constant(V0)), r.let(3, r.apply(r.methodOf(EQ),
            r.constant(V0)), r.constant(OF_INT))));
    }

    /** "those on open ones that are in e's type belong to x": each copy wants its own. */
    static void terms_wants_belongToX() {
        Run r = world();
        int pairing = pairing(r);
        r.typed(r.let(0, r.methodOf(ORD), pairOf(r, pairing, r.name(0), r.name(0))),
            new int[] {PAIR, ARROW, -1, -1, ARROW, -2, -2}, new int[] {ORD, 0, ORD, 1}, 3);
        r.typed(r.let(0, r.methodOf(ORD), r.constant(OF_INT)), new int[] {INT}, NONE, 1);
    }

    /** "one on an open variable that is not in e's type can't be told: AMBIGUOUS. (Also when x is not used.)" */
    static void terms_ambiguous_notInTheTypeOfE() {
        Run r = worldWithTold();
        int one = r.constant(OF_INT);
        int lost = r.apply(r.methodOf(EQ), r.constant(V0));
        r.refused(AMBIGUOUS, Run.Op.INFER, r.let(0, lost, r.name(0)));
        r.refused(AMBIGUOUS, Run.Op.INFER, r.let(0, lost, one));
        int bound = r.apply(r.methodOf(EQ), r.name(1));
        r.typed(r.lambda(1, r.let(0, bound, one)), new int[] {ARROW, -1, INT}, new int[] {EQ, 0}, 1);
        int inType = r.apply(r.methodOf(ORD), r.constant(V0));
        r.typed(r.let(0, inType, r.name(0)), new int[] {-1}, new int[] {ORD, 0}, 2);
        r.typed(r.let(0, inType, one), new int[] {INT}, NONE, 1);
    }

    /** "not in e's type can't be told": when an instance wants it of a part, too. */
    static void terms_ambiguous_byAnInstance() {
        Run r = worldWithTold();
        r.instance(EQ, PAIR, 0, 1 << SHOW);
        int pairing = pairing(r);
        int list = r.constant(LIST_V0);
        int any = r.constant(V0);
        int eq = r.methodOf(EQ);
        r.refused(AMBIGUOUS, Run.Op.INFER, r.let(0, r.apply(eq, pairOf(r, pairing, list, any)), list));
        int first = r.let(0, r.apply(eq, pairOf(r, pairing, any, r.constant(OF_INT))), list);
        r.refused(LACKS, Run.Op.INFER, first);
        r.instance(SHOW, INT, 0, 0);
        r.typed(first, new int[] {LIST, -1}, NONE, 1);
    }

    /** "can't be told": in the e of a LET, also when a LAMBDA is around it. */
    static void terms_ambiguous_underALambda() {
        Run r = worldWithTold();
        int lost = r.apply(r.methodOf(EQ), r.constant(V0));
        r.refused(AMBIGUOUS, Run.Op.INFER, r.lambda(0, r.let(1, lost, r.name(0))));
    }

    /** "Those of an expression itself likewise: all variables are open." */
    static void terms_ambiguous_ofTheExpressionItself() {
        Run r = worldWithTold();
        int eq = r.methodOf(EQ);
        r.refused(AMBIGUOUS, Run.Op.INFER, r.apply(eq, r.constant(V0)));
        r.refused(AMBIGUOUS, Run.Op.INFER, r.apply(r.lambda(0, r.apply(eq, r.name(0))), r.constant(V0)));
        r.typed(r.lambda(0, r.apply(eq, r.name(0))), new int[] {ARROW, -1, INT}, new int[] {EQ, 0}, 1);
        r.typed(r.apply(r.methodOf(ORD), r.constant(V0)), new int[] {-1}, new int[] {ORD, 0}, 1);
    }

    /** A class's method may have variables beside variable 0: only that one is wanted to be in it. */
    static void terms_method_wantsVariableNoughtAlone() {
        Run r = world();
        int c = r.class0(-1);
        r.method(c, r.type(ARROW, V1, r.type(ARROW, V0, V1)));
        r.typed(r.methodOf(c), new int[] {ARROW, -1, ARROW, -2, -1}, new int[] {c, 1}, 1);
    }
}
