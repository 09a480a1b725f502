import java.util.Arrays;

/**
 * Boundary cases of promises 1 to 8 and 14 to 18, and of the Terms that they use: each has a method of its own,
 * named after the promise and the case, with the words that name the case.
 */
public final class TableBoundaryTest extends Cases {
    public static void main(String[] args) {
        runAll(TableBoundaryTest.class);
    }

    // Promise 1: A new object

    /** "no types, classes, expressions" */
    static void promise01_empty_nothingIsThere() {
        Run r = new Run();
        r.due(0, Run.Op.TYPES);
        r.due(0, Run.Op.CLASSES);
        r.due(0, Run.Op.EXPRESSIONS);
        r.told(NONE, NONE, 0);
        r.due(-100, Run.Op.SHAPE, -1);
    }

    /** "no types, classes, expressions": number 0 is none of them. */
    static void promise01_empty_numberNoughtIsNone() {
        Run r = new Run();
        r.refused(BAD, Run.Op.TYPE, ARROW, 0, 0);
        r.refused(BAD, Run.Op.CLASS0, 0);
        r.refused(BAD, Run.Op.METHOD, 0, 0);
        r.refused(BAD, Run.Op.INSTANCE, 0, ARROW, 0, 0);
        r.refused(BAD, Run.Op.EXPRESSION, LAMBDA, 0, 0, 0);
        r.refused(BAD, Run.Op.EXPRESSION, APPLY, 0, 0, 0);
        r.refused(BAD, Run.Op.EXPRESSION, LET, 0, 0, 0);
        r.refused(BAD, Run.Op.EXPRESSION, METHOD_OF, 0, 0, 0);
        r.refused(BAD, Run.Op.EXPRESSION, CONSTANT, 0, 0, 0);
        r.refused(BAD, Run.Op.INFER, 0);
        r.refused(BAD, Run.Op.IS, 0, 0);
        r.refused(BAD, Run.Op.UNDER, 0, 0);
    }

    /** "The ARROW alone": constructor 0 is there, 1 is not. */
    static void promise01_arrowAlone_oneIsNoConstructor() {
        Run r = new Run();
        r.variable(0);
        r.class0(-1);
        r.refused(BAD, Run.Op.TYPE, 1, 0, 0);
        r.refused(BAD, Run.Op.INSTANCE, 0, 1, 0, 0);
        r.due(0, Run.Op.INSTANCE, 0, ARROW, 0, 0);
        r.due(1, Run.Op.CONSTRUCTOR, 0);
        r.due(1, Run.Op.TYPE, 1, 0, 0);
    }

    /** "0 is the ARROW, with two": both parts are looked at. */
    static void promise01_arrow_hasTwoParts() {
        Run r = new Run();
        r.variable(0);
        r.refused(BAD, Run.Op.TYPE, ARROW, -1, 0);
        r.refused(BAD, Run.Op.TYPE, ARROW, 0, -1);
        r.refused(BAD, Run.Op.TYPE, ARROW, 1, 0);
        r.refused(BAD, Run.Op.TYPE, ARROW, 0, 1);
        r.due(1, Run.Op.TYPE, ARROW, 0, 0);
    }

    static void promise01_objects_shareNothing() {
        worldWithTold();
        promise01_empty_nothingIsThere();
        promise01_empty_numberNoughtIsNone();
    }

    // Promise 2: constructor

    /** "with 0 .. 2 parts" */
    static void promise02_parts_noughtIsTheFewest() {
        Run r = worldWithTold();
        r.refused(BAD, Run.Op.CONSTRUCTOR, -1);
        r.due(4, Run.Op.CONSTRUCTOR, 0);
        r.due(10, Run.Op.TYPE, 4, -1, -1);
        r.due(5, Run.Op.CONSTRUCTOR, 1);
        r.refused(BAD, Run.Op.TYPE, 5, -1, -1);
        r.due(11, Run.Op.TYPE, 5, 0, -1);
    }

    /** "with 0 .. 2 parts" */
    static void promise02_parts_twoAreTheMost() {
        Run r = worldWithTold();
        r.refused(BAD, Run.Op.CONSTRUCTOR, 3);
        r.due(4, Run.Op.CONSTRUCTOR, 2);
        r.refused(BAD, Run.Op.TYPE, 4, 0, -1);
        r.refused(BAD, Run.Op.TYPE, 4, -1, 0);
        r.due(10, Run.Op.TYPE, 4, 0, 0);
        r.due(5, Run.Op.CONSTRUCTOR, 1);
        r.due(11, Run.Op.TYPE, 5, 0, -1);
    }

    static void promise02_parts_far() {
        Run r = worldWithTold();
        for (int far : FAR) {
            r.refused(BAD, Run.Op.CONSTRUCTOR, far);
        }
        r.due(4, Run.Op.CONSTRUCTOR, 1);
    }

    private static Run withConstructors(int count) {
        Run r = new Run();
        for (int i = 1; i < count; i++) {
            r.constructor(0);
        }
        return r;
    }

    /** "CONSTRUCTORS are numbered from 0, at most 8": the eighth is the last one. */
    static void promise02_full_eightAreTheMost() {
        withConstructors(6).due(6, Run.Op.CONSTRUCTOR, 0);
        Run r = withConstructors(7);
        r.due(7, Run.Op.CONSTRUCTOR, 1);
        r.refused(FULL, Run.Op.CONSTRUCTOR, 0);
        r.refused(FULL, Run.Op.CONSTRUCTOR, 1);
        r.refused(FULL, Run.Op.CONSTRUCTOR, 2);
        r.refused(BAD, Run.Op.TYPE, 8, 0, 0);
        r.due(0, Run.Op.VARIABLE, 0);
        r.refused(BAD, Run.Op.TYPE, 7, -1, 0);
        r.due(1, Run.Op.TYPE, 7, 0, -1);
    }

    static void promise02_full_badIsBadStill() {
        Run r = withConstructors(8);
        r.refused(BAD, Run.Op.CONSTRUCTOR, -1);
        r.refused(BAD, Run.Op.CONSTRUCTOR, 3);
    }

    // Promise 3: variable

    /** "VARIABLE v (0 .. 7)" */
    static void promise03_v_noughtIsTheFirst() {
        Run r = new Run();
        r.refused(BAD, Run.Op.VARIABLE, -1);
        r.due(0, Run.Op.VARIABLE, 0);
        r.due(1, Run.Op.VARIABLE, 1);
    }

    /** "VARIABLE v (0 .. 7)" */
    static void promise03_v_sevenIsTheLast() {
        Run r = new Run();
        r.refused(BAD, Run.Op.VARIABLE, 8);
        r.due(0, Run.Op.VARIABLE, 7);
        r.due(1, Run.Op.VARIABLE, 6);
        r.refused(BAD, Run.Op.VARIABLE, 8);
    }

    static void promise03_v_far() {
        Run r = worldWithTold();
        for (int far : FAR) {
            r.refused(BAD, Run.Op.VARIABLE, far);
        }
        r.due(10, Run.Op.VARIABLE, 7);
    }

    /** "TYPES are kept once each" */
    static void promise03_keptOnce_eachOfTheEight() {
        Run r = new Run();
        for (int v = 7; v >= 0; v--) {
            r.due(7 - v, Run.Op.VARIABLE, v);
        }
        for (int v = 0; v < 8; v++) {
            r.changesNothing(7 - v, Run.Op.VARIABLE, v);
        }
        r.due(8, Run.Op.TYPES);
    }

    /** So many types: variables 1 and 2, and what arrows make of them; variable 0 is none of them. */
    private static Run withTypes(int count) {
        Run r = new Run();
        r.variable(1);
        r.variable(2);
        int made = 2;
        for (int a = 0; made < count; a++) {
            for (int b = 0; b <= a && made < count; b++) {
                equal("the type to fill up with", r.type(ARROW, a, b), made);
                made++;
            }
        }
        return r;
    }

    /** "at most 60" */
    static void promise03_full_theSixtiethIsTheLast() {
        withTypes(58).due(58, Run.Op.VARIABLE, 0);
        Run r = withTypes(59);
        r.due(59, Run.Op.VARIABLE, 0);
        r.refused(FULL, Run.Op.VARIABLE, 3);
        r.refused(FULL, Run.Op.VARIABLE, 7);
        r.due(60, Run.Op.TYPES);
    }

    /** "kept once each": one that there is needs no room. */
    static void promise03_full_knownOnesAreTold() {
        Run r = withTypes(60);
        r.changesNothing(0, Run.Op.VARIABLE, 1);
        r.changesNothing(1, Run.Op.VARIABLE, 2);
        r.refused(FULL, Run.Op.VARIABLE, 0);
    }

    static void promise03_full_badIsBadStill() {
        Run r = withTypes(60);
        r.refused(BAD, Run.Op.VARIABLE, -1);
        r.refused(BAD, Run.Op.VARIABLE, 8);
    }

    // Promise 4: type

    static void promise04_constructor_firstAndLast() {
        Run r = worldWithTold();
        r.refused(BAD, Run.Op.TYPE, -1, V0, V0);
        r.refused(BAD, Run.Op.TYPE, 4, V0, V0);
        r.due(10, Run.Op.TYPE, ARROW, V1, V0);
        r.due(11, Run.Op.TYPE, PAIR, V1, V0);
        for (int far : FAR) {
            r.refused(BAD, Run.Op.TYPE, far, V0, V0);
        }
    }

    static void promise04_firstPart_firstAndLast() {
        Run r = worldWithTold();
        r.refused(BAD, Run.Op.TYPE, LIST, -1, V0);
        r.refused(BAD, Run.Op.TYPE, LIST, 10, V0);
        r.refused(BAD, Run.Op.TYPE, PAIR, -1, V0);
        r.refused(BAD, Run.Op.TYPE, PAIR, 10, V0);
        for (int far : FAR) {
            r.refused(BAD, Run.Op.TYPE, LIST, far, V0);
            r.refused(BAD, Run.Op.TYPE, PAIR, far, V0);
        }
        r.changesNothing(LIST_V0, Run.Op.TYPE, LIST, 0, V0);
        r.due(10, Run.Op.TYPE, LIST, 9, V0);
        r.due(11, Run.Op.TYPE, PAIR, 10, V0);
    }

    static void promise04_secondPart_firstAndLast() {
        Run r = worldWithTold();
        r.refused(BAD, Run.Op.TYPE, PAIR, V0, -1);
        r.refused(BAD, Run.Op.TYPE, PAIR, V0, 10);
        for (int far : FAR) {
            r.refused(BAD, Run.Op.TYPE, PAIR, V0, far);
        }
        r.due(10, Run.Op.TYPE, PAIR, V0, 0);
        r.due(11, Run.Op.TYPE, PAIR, V0, 10);
    }

    /** "those that it has not are not looked at" */
    static void promise04_partsItHasNot_areNotLookedAt() {
        Run r = worldWithTold();
        int[] any = {-1, 10, Integer.MIN_VALUE, Integer.MAX_VALUE, 0, 9};
        for (int part : any) {
            r.changesNothing(OF_INT, Run.Op.TYPE, INT, part, part);
            r.changesNothing(LIST_V0, Run.Op.TYPE, LIST, V0, part);
        }
        r.due(10, Run.Op.TYPE, LIST, OF_INT, Integer.MIN_VALUE);
        r.changesNothing(10, Run.Op.TYPE, LIST, OF_INT, V1);
    }

    /** "TYPES are kept once each": and parts in another order are another one. */
    static void promise04_keptOnce() {
        Run r = worldWithTold();
        r.changesNothing(PAIR_V0_V1, Run.Op.TYPE, PAIR, V0, V1);
        r.changesNothing(V0_TO_INT, Run.Op.TYPE, ARROW, V0, OF_INT);
        r.due(10, Run.Op.TYPE, PAIR, V1, V0);
        r.due(11, Run.Op.TYPE, ARROW, V0, V1);
        r.due(12, Run.Op.TYPES);
    }

    /** A list of lists and so on: so many nodes in all, of which the last is a constructor without parts. */
    private static int lists(Run r, int nodes) {
        int t = OF_INT;
        for (int i = 1; i < nodes; i++) {
            t = r.type(LIST, t, 0);
        }
        return t;
    }

    /** "when it would have more than 16 nodes" */
    static void promise04_nodes_sixteenAreTheMost() {
        Run r = world();
        int fourteen = lists(r, 14);
        equal("14 nodes", fourteen, 20);
        r.due(21, Run.Op.TYPE, LIST, fourteen, 0);
        r.due(22, Run.Op.TYPE, LIST, 21, 0);
        r.refused(FULL, Run.Op.TYPE, LIST, 22, 0);
        r.due(23, Run.Op.TYPES);
    }

    /** "written out": what stands in a type twice counts twice. */
    static void promise04_nodes_writtenOut() {
        Run r = world();
        int seven = lists(r, 7);
        int eight = lists(r, 8);
        r.due(15, Run.Op.TYPE, PAIR, seven, seven);
        r.due(16, Run.Op.TYPE, PAIR, seven, eight);
        r.due(17, Run.Op.TYPE, PAIR, eight, seven);
        r.refused(FULL, Run.Op.TYPE, PAIR, eight, eight);
        r.due(18, Run.Op.TYPE, LIST, 15, 0);
        r.refused(FULL, Run.Op.TYPE, LIST, 16, 0);
        r.refused(FULL, Run.Op.TYPE, PAIR, 16, 16);
        r.refused(FULL, Run.Op.TYPE, ARROW, 18, OF_INT);
        r.refused(FULL, Run.Op.TYPE, ARROW, OF_INT, 18);
    }

    /** "more than 16 nodes": a part that does not stand there does not count. */
    static void promise04_nodes_partsItHasNotDoNotCount() {
        Run r = world();
        int fifteen = lists(r, 15);
        r.due(22, Run.Op.TYPE, LIST, fifteen, fifteen);
        r.changesNothing(OF_INT, Run.Op.TYPE, INT, 22, 22);
    }

    /** "at most 60" */
    static void promise04_full_theSixtiethIsTheLast() {
        Run below = withTypes(58);
        below.due(58, Run.Op.TYPE, ARROW, 0, 20);
        Run r = withTypes(59);
        r.constructor(0);
        r.due(59, Run.Op.TYPE, 1, 0, 0);
        r.refused(FULL, Run.Op.TYPE, ARROW, 0, 20);
        r.refused(FULL, Run.Op.TYPE, ARROW, 59, 59);
        r.due(60, Run.Op.TYPES);
    }

    /** "kept once each": one that there is needs no room. */
    static void promise04_full_knownOnesAreTold() {
        Run r = withTypes(60);
        r.changesNothing(2, Run.Op.TYPE, ARROW, 0, 0);
        r.changesNothing(3, Run.Op.TYPE, ARROW, 1, 0);
        r.refused(FULL, Run.Op.TYPE, ARROW, 0, 1);
    }

    static void promise04_full_badIsBadStill() {
        Run r = withTypes(60);
        r.refused(BAD, Run.Op.TYPE, ARROW, 60, 0);
        r.refused(BAD, Run.Op.TYPE, ARROW, 0, 60);
        r.refused(BAD, Run.Op.TYPE, ARROW, -1, 0);
        r.refused(BAD, Run.Op.TYPE, 1, 0, 0);
    }

    // Promise 5: class0

    /** "above it a class or (-1) none" */
    static void promise05_above_minusOneIsNone() {
        Run r = worldWithTold();
        r.refused(BAD, Run.Op.CLASS0, -2);
        r.due(3, Run.Op.CLASS0, -1);
        r.due(0, Run.Op.UNDER, 3, 0);
        r.due(4, Run.Op.CLASS0, 0);
        r.due(1, Run.Op.UNDER, 4, 0);
    }

    /** "one made before it": not itself, nor one made later. */
    static void promise05_above_madeBefore() {
        Run r = worldWithTold();
        r.refused(BAD, Run.Op.CLASS0, 3);
        r.refused(BAD, Run.Op.CLASS0, 4);
        r.due(3, Run.Op.CLASS0, 2);
        r.due(1, Run.Op.UNDER, 3, 2);
        r.due(4, Run.Op.CLASS0, 3);
    }

    static void promise05_above_far() {
        Run r = worldWithTold();
        for (int far : FAR) {
            r.refused(BAD, Run.Op.CLASS0, far);
        }
        r.due(3, Run.Op.CLASSES);
    }

    private static Run withClasses(int count) {
        Run r = new Run();
        for (int i = 0; i < count; i++) {
            r.class0(-1);
        }
        return r;
    }

    /** "CLASSES are numbered from 0, at most 8": the eighth is the last one. */
    static void promise05_full_eightAreTheMost() {
        withClasses(0).due(0, Run.Op.CLASS0, -1);
        withClasses(6).due(6, Run.Op.CLASS0, -1);
        Run r = withClasses(7);
        r.due(7, Run.Op.CLASS0, 6);
        r.refused(FULL, Run.Op.CLASS0, -1);
        r.refused(FULL, Run.Op.CLASS0, 0);
        r.refused(FULL, Run.Op.CLASS0, 7);
        r.due(8, Run.Op.CLASSES);
        r.due(1, Run.Op.UNDER, 7, 6);
    }

    /** "FULL": the eighth class still has its method and its instance. */
    static void promise05_full_theLastOneStaysAsItIs() {
        Run r = withClasses(7);
        r.class0(6);
        r.method(7, r.variable(0));
        r.instance(6, ARROW, 1, 2);
        r.instance(7, ARROW, 1, 2);
        r.refused(FULL, Run.Op.CLASS0, -1);
        r.refused(FULL, Run.Op.CLASS0, 5);
        r.typed(r.methodOf(7), new int[] {-1}, new int[] {7, 0}, 1);
        r.due(1, Run.Op.UNDER, 7, 6);
        r.due(0, Run.Op.UNDER, 7, 5);
    }

    static void promise05_full_badIsBadStill() {
        Run r = withClasses(8);
        r.refused(BAD, Run.Op.CLASS0, -2);
        r.refused(BAD, Run.Op.CLASS0, 8);
    }

    // Promise 6: method

    static void promise06_class_firstAndLast() {
        Run r = worldWithTold();
        r.class0(-1);
        r.refused(BAD, Run.Op.METHOD, -1, V0);
        r.refused(BAD, Run.Op.METHOD, 4, V0);
        for (int far : FAR) {
            r.refused(BAD, Run.Op.METHOD, far, V0);
        }
        r.due(1, Run.Op.METHOD, 3, V0);
        Run first = new Run();
        first.variable(0);
        first.class0(-1);
        first.due(1, Run.Op.METHOD, 0, 0);
    }

    static void promise06_type_firstAndLast() {
        Run r = worldWithTold();
        r.class0(-1);
        r.class0(-1);
        r.type(LIST, LIST_V0, 0);
        r.refused(BAD, Run.Op.METHOD, 3, -1);
        r.refused(BAD, Run.Op.METHOD, 3, 11);
        for (int far : FAR) {
            r.refused(BAD, Run.Op.METHOD, 3, far);
        }
        r.due(1, Run.Op.METHOD, 3, 10);
        r.due(1, Run.Op.METHOD, 4, 0);
    }

    /** "also when it has one": another one, or the same again; the first one stays. */
    static void promise06_second_isRefused() {
        Run r = worldWithTold();
        r.refused(BAD, Run.Op.METHOD, EQ, V0_TO_INT);
        r.refused(BAD, Run.Op.METHOD, EQ, V0_TO_V0);
        r.refused(BAD, Run.Op.METHOD, EQ, V0);
        r.typed(r.methodOf(EQ), new int[] {ARROW, -1, INT}, new int[] {EQ, 0}, 1);
    }

    /** "A class may have a METHOD": what the classes above and under it have is not its own. */
    static void promise06_second_isOfThisClassAlone() {
        Run r = worldWithTold();
        r.class0(EQ);
        r.refused(BAD, Run.Op.EXPRESSION, METHOD_OF, 3, 0, 0);
        r.due(1, Run.Op.METHOD, 3, V0_TO_INT);
        r.typed(r.methodOf(3), new int[] {ARROW, -1, INT}, new int[] {3, 0}, 1);
    }

    /** "or variable 0 is not in the type" */
    static void promise06_variableNought_hasToBeInIt() {
        Run r = worldWithTold();
        r.class0(-1);
        int others = r.type(PAIR, V1, r.type(LIST, r.variable(7), 0));
        r.refused(BAD, Run.Op.METHOD, 3, V1);
        r.refused(BAD, Run.Op.METHOD, 3, OF_INT);
        r.refused(BAD, Run.Op.METHOD, 3, others);
        r.due(1, Run.Op.METHOD, 3, V0);
        r.typed(r.methodOf(3), new int[] {-1}, new int[] {3, 0}, 1);
    }

    /** "variable 0 is not in the type": the last of its sixteen nodes is in it too. */
    static void promise06_variableNought_isTheLastOfSixteenNodes() {
        Run r = world();
        r.class0(-1);
        int t = V0;
        for (int i = 1; i < 14; i++) {
            t = r.type(LIST, t, 0);
        }
        r.due(1, Run.Op.METHOD, 3, r.type(PAIR, V1, t));
        int[] shape = new int[16];
        Arrays.fill(shape, LIST);
        shape[0] = PAIR;
        shape[1] = -1;
        shape[15] = -2;
        r.typed(r.methodOf(3), shape, new int[] {3, 1}, 1);
    }

    // Promise 7: instance

    static void promise07_class_firstAndLast() {
        Run r = worldWithTold();
        r.refused(BAD, Run.Op.INSTANCE, -1, INT, 0, 0);
        r.refused(BAD, Run.Op.INSTANCE, 3, INT, 0, 0);
        for (int far : FAR) {
            r.refused(BAD, Run.Op.INSTANCE, far, INT, 0, 0);
        }
        r.due(0, Run.Op.INSTANCE, 0, INT, 0, 0);
        r.due(1, Run.Op.INSTANCE, 2, INT, 0, 0);
    }

    static void promise07_constructor_firstAndLast() {
        Run r = worldWithTold();
        r.refused(BAD, Run.Op.INSTANCE, EQ, -1, 0, 0);
        r.refused(BAD, Run.Op.INSTANCE, EQ, 4, 0, 0);
        for (int far : FAR) {
            r.refused(BAD, Run.Op.INSTANCE, EQ, far, 0, 0);
        }
        r.due(0, Run.Op.INSTANCE, EQ, PAIR, 0, 0);
        r.due(1, Run.Op.INSTANCE, EQ, ARROW, 0, 0);
    }

    /** A constructor beyond the last of one class is not the first one of the next class. */
    static void promise07_constructor_beyondEightIsNone() {
        Run r = withConstructors(8);
        r.class0(-1);
        r.class0(-1);
        r.refused(BAD, Run.Op.INSTANCE, 0, 8, 0, 0);
        r.refused(BAD, Run.Op.INSTANCE, 1, -1, 0, 0);
        r.due(0, Run.Op.INSTANCE, 0, 7, 0, 0);
        r.due(1, Run.Op.INSTANCE, 1, 0, 0, 0);
    }

    /** "bits, each of a class that there is": of the first part. */
    static void promise07_bits_lastClassOfTheFirstPart() {
        Run r = worldWithTold();
        int[] none = {8, 16, 9, 15, 128, 256, 1 << 30, Integer.MIN_VALUE, Integer.MIN_VALUE + 1, -1, -8,
            Integer.MAX_VALUE};
        for (int bits : none) {
            r.refused(BAD, Run.Op.INSTANCE, EQ, PAIR, bits, 0);
        }
        r.due(0, Run.Op.INSTANCE, EQ, PAIR, 7, 0);
        r.due(1, Run.Op.INSTANCE, EQ, LIST, 4, 0);
    }

    /** "bits, each of a class that there is": of the second part. */
    static void promise07_bits_lastClassOfTheSecondPart() {
        Run r = worldWithTold();
        int[] none = {8, 16, 9, 15, 128, 256, 1 << 30, Integer.MIN_VALUE, Integer.MIN_VALUE + 1, -1, -8,
            Integer.MAX_VALUE};
        for (int bits : none) {
            r.refused(BAD, Run.Op.INSTANCE, EQ, PAIR, 0, bits);
        }
        r.due(0, Run.Op.INSTANCE, EQ, PAIR, 0, 7);
        r.due(1, Run.Op.INSTANCE, EQ, ARROW, 0, 4);
    }

    /** "each of a class that there is": with eight classes the bits of all of them. */
    static void promise07_bits_allEight() {
        Run r = withClasses(8);
        r.refused(BAD, Run.Op.INSTANCE, 0, ARROW, 256, 0);
        r.refused(BAD, Run.Op.INSTANCE, 0, ARROW, 0, 256);
        r.refused(BAD, Run.Op.INSTANCE, 0, ARROW, 511, 255);
        r.due(0, Run.Op.INSTANCE, 0, ARROW, 255, 255);
        r.due(1, Run.Op.INSTANCE, 1, ARROW, 128, 128);
    }

    /** "also for a part that it has not": bits of no class are BAD there too. */
    static void promise07_partItHasNot_bitsOfNoClass() {
        Run r = worldWithTold();
        int[] none = {8, 15, 256, Integer.MIN_VALUE, -1, Integer.MAX_VALUE};
        for (int bits : none) {
            r.refused(BAD, Run.Op.INSTANCE, EQ, INT, bits, 0);
            r.refused(BAD, Run.Op.INSTANCE, EQ, INT, 0, bits);
            r.refused(BAD, Run.Op.INSTANCE, EQ, LIST, 0, bits);
        }
        r.due(0, Run.Op.INSTANCE, EQ, INT, 7, 7);
        r.due(1, Run.Op.INSTANCE, EQ, LIST, 0, 7);
    }

    /** "where they do not count": neither when one under it has to fit. */
    static void promise07_partItHasNot_doesNotCountForFitting() {
        Run r = worldWithTold();
        r.due(0, Run.Op.INSTANCE, EQ, INT, 7, 7);
        r.due(1, Run.Op.INSTANCE, ORD, INT, 0, 0);
        r.due(2, Run.Op.INSTANCE, EQ, LIST, 1, 7);
        r.refused(NO, Run.Op.INSTANCE, ORD, LIST, 0, 7);
        r.due(3, Run.Op.INSTANCE, ORD, LIST, 1, 0);
    }

    /** "where they do not count": nor when it is asked what is in a class. */
    static void promise07_partItHasNot_doesNotCountForWants() {
        Run r = worldWithTold();
        r.instance(EQ, INT, 7, 7);
        r.instance(EQ, LIST, 1, 7);
        r.due(1, Run.Op.IS, EQ, OF_INT);
        r.due(1, Run.Op.IS, EQ, r.type(LIST, OF_INT, 0));
        int eqOfList = r.apply(r.methodOf(EQ), r.apply(r.constant(r.type(ARROW, V0, LIST_V0)), r.name(0)));
        r.typed(r.lambda(0, eqOfList), new int[] {ARROW, -1, INT}, new int[] {EQ, 0}, 1);
    }

    /** "when there is none yet of that class for that constructor" */
    static void promise07_overlap_secondDoesNotFit() {
        Run r = worldWithTold();
        r.due(0, Run.Op.INSTANCE, EQ, LIST, 1, 0);
        r.refused(NO, Run.Op.INSTANCE, EQ, LIST, 1, 0);
        r.refused(NO, Run.Op.INSTANCE, EQ, LIST, 0, 0);
        r.refused(NO, Run.Op.INSTANCE, EQ, LIST, 7, 7);
        r.due(1, Run.Op.INSTANCE, EQ, INT, 0, 0);
        r.due(2, Run.Op.INSTANCE, SHOW, LIST, 0, 0);
    }

    /** "NO when it does not fit": what the first one wants of the parts stays. */
    static void promise07_overlap_theFirstStays() {
        Run r = world();
        int list = r.type(LIST, OF_INT, 0);
        int listFirst = r.type(PAIR, list, OF_INT);
        int listSecond = r.type(PAIR, OF_INT, list);
        r.instance(EQ, INT, 0, 0);
        r.instance(EQ, PAIR, 1 << EQ, 0);
        r.instance(SHOW, PAIR, 0, 1 << EQ);
        r.refused(NO, Run.Op.INSTANCE, EQ, PAIR, 0, 0);
        r.refused(NO, Run.Op.INSTANCE, EQ, PAIR, 0, 1 << EQ);
        r.refused(NO, Run.Op.INSTANCE, SHOW, PAIR, 0, 0);
        r.refused(NO, Run.Op.INSTANCE, SHOW, PAIR, 1 << EQ, 0);
        r.due(0, Run.Op.IS, EQ, listFirst);
        r.due(1, Run.Op.IS, EQ, listSecond);
        r.due(1, Run.Op.IS, SHOW, listFirst);
        r.due(0, Run.Op.IS, SHOW, listSecond);
    }

    /** "if there is a class above, that has an instance for the constructor" */
    static void promise07_above_hasToHaveOne() {
        Run r = worldWithTold();
        r.refused(NO, Run.Op.INSTANCE, ORD, INT, 0, 0);
        r.instance(EQ, LIST, 0, 0);
        r.instance(SHOW, INT, 0, 0);
        r.refused(NO, Run.Op.INSTANCE, ORD, INT, 0, 0);
        r.due(2, Run.Op.INSTANCE, EQ, INT, 0, 0);
        r.due(3, Run.Op.INSTANCE, ORD, INT, 0, 0);
    }

    /** "a class above, that has an instance": the one above that one is not enough. */
    static void promise07_above_isTheNextOne() {
        Run r = worldWithTold();
        r.class0(ORD);
        r.instance(EQ, INT, 0, 0);
        r.refused(NO, Run.Op.INSTANCE, 3, INT, 0, 0);
        r.due(1, Run.Op.INSTANCE, ORD, INT, 0, 0);
        r.due(2, Run.Op.INSTANCE, 3, INT, 0, 0);
    }

    /** "if there is a class above": where there is none, what is under it does not matter. */
    static void promise07_above_noneIsNeeded() {
        Run r = worldWithTold();
        r.due(0, Run.Op.INSTANCE, EQ, PAIR, 7, 7);
        r.due(1, Run.Op.INSTANCE, SHOW, PAIR, 0, 0);
    }

    /** Classes 0, 1 under 0, 2 under 1, 3 under 2, and 4; the one above wants classes of the first part. */
    private static Run chain(int wantedAbove, int wantedAboveSecond) {
        Run r = new Run();
        for (int c = 0; c < 4; c++) {
            r.class0(c - 1);
        }
        r.class0(-1);
        r.instance(0, ARROW, wantedAbove, wantedAboveSecond);
        return r;
    }

    /** "each class that it wants of a part is one that a class, wanted of that part by the new one, is under" */
    static void promise07_wanted_theSameOrOneUnderIt() {
        int[] fitting = {1 << 1, 1 << 2, 1 << 3, 1 << 0 | 1 << 1, 1 << 4 | 1 << 3};
        int[] not = {0, 1 << 0, 1 << 4, 1 << 0 | 1 << 4};
        for (int bits : fitting) {
            chain(1 << 1, 0).due(1, Run.Op.INSTANCE, 1, ARROW, bits, 0);
            chain(0, 1 << 1).due(1, Run.Op.INSTANCE, 1, ARROW, 0, bits);
        }
        for (int bits : not) {
            chain(1 << 1, 0).refused(NO, Run.Op.INSTANCE, 1, ARROW, bits, 0);
            chain(0, 1 << 1).refused(NO, Run.Op.INSTANCE, 1, ARROW, 0, bits);
        }
    }

    /** "each class that it wants": one that is missing is enough. */
    static void promise07_wanted_eachOfSeveral() {
        int both = 1 << 1 | 1 << 4;
        chain(both, 0).refused(NO, Run.Op.INSTANCE, 1, ARROW, 1 << 1, 0);
        chain(both, 0).refused(NO, Run.Op.INSTANCE, 1, ARROW, 1 << 4, 0);
        chain(both, 0).refused(NO, Run.Op.INSTANCE, 1, ARROW, 1 << 0 | 1 << 4, 0);
        chain(both, 0).due(1, Run.Op.INSTANCE, 1, ARROW, both, 0);
        chain(both, 0).due(1, Run.Op.INSTANCE, 1, ARROW, 1 << 3 | 1 << 4, 0);
        chain(1 << 0 | 1 << 1 | 1 << 2, 0).due(1, Run.Op.INSTANCE, 1, ARROW, 1 << 2, 0);
        chain(1 << 0 | 1 << 1 | 1 << 2, 0).refused(NO, Run.Op.INSTANCE, 1, ARROW, 1 << 1, 0);
    }

    /** "wanted of that part": what is wanted of the other one does not help. */
    static void promise07_wanted_ofThatPart() {
        chain(1 << 1, 0).refused(NO, Run.Op.INSTANCE, 1, ARROW, 0, 1 << 1);
        chain(0, 1 << 1).refused(NO, Run.Op.INSTANCE, 1, ARROW, 1 << 1, 0);
        chain(1 << 1, 1 << 4).refused(NO, Run.Op.INSTANCE, 1, ARROW, 1 << 4, 1 << 1);
        chain(1 << 1, 1 << 4).refused(NO, Run.Op.INSTANCE, 1, ARROW, 1 << 1, 0);
        chain(1 << 1, 1 << 4).refused(NO, Run.Op.INSTANCE, 1, ARROW, 0, 1 << 4);
        chain(1 << 1, 1 << 4).due(1, Run.Op.INSTANCE, 1, ARROW, 1 << 1, 1 << 4);
    }

    /** "each class that it wants": when that is none, anything fits. */
    static void promise07_wanted_noneAbove() {
        chain(0, 0).due(1, Run.Op.INSTANCE, 1, ARROW, 0, 0);
        chain(0, 0).due(1, Run.Op.INSTANCE, 1, ARROW, 31, 31);
    }

    /** "BAD when a class or constructor is none, or a bit no class; NO when it does not fit" */
    static void promise07_badBeforeNo() {
        Run r = worldWithTold();
        r.instance(EQ, LIST, 1, 0);
        r.refused(BAD, Run.Op.INSTANCE, EQ, LIST, 8, 0);
        r.refused(BAD, Run.Op.INSTANCE, EQ, LIST, 0, 8);
        r.refused(BAD, Run.Op.INSTANCE, ORD, LIST, 8, 0);
        r.refused(BAD, Run.Op.INSTANCE, ORD, INT, 0, 8);
    }

    /** "its number, from 0": those that were refused have none. */
    static void promise07_number_refusedOnesHaveNone() {
        Run r = worldWithTold();
        r.refused(NO, Run.Op.INSTANCE, ORD, INT, 0, 0);
        r.refused(BAD, Run.Op.INSTANCE, EQ, INT, 8, 0);
        r.due(0, Run.Op.INSTANCE, EQ, INT, 0, 0);
        r.refused(NO, Run.Op.INSTANCE, EQ, INT, 0, 0);
        r.due(1, Run.Op.INSTANCE, ORD, INT, 0, 0);
    }

    /** Eight classes and eight constructors have 64 instances, and no more. */
    static void promise07_number_sixtyFourInAll() {
        Run r = withConstructors(8);
        for (int c = 0; c < 8; c++) {
            r.class0(c - 1);
        }
        for (int i = 0; i < 64; i++) {
            r.due(i, Run.Op.INSTANCE, i % 8, i / 8, 255, 255);
        }
        for (int i = 0; i < 64; i += 7) {
            r.refused(NO, Run.Op.INSTANCE, i % 8, i / 8, 255, 255);
        }
        r.refused(BAD, Run.Op.INSTANCE, 8, 0, 255, 255);
        r.refused(BAD, Run.Op.INSTANCE, 0, 8, 255, 255);
    }

    // Promise 8: expression

    /** "An expression of a kind": 0 .. 5. */
    static void promise08_kind_firstAndLast() {
        Run r = worldWithTold();
        r.refused(BAD, Run.Op.EXPRESSION, -1, 0, 0, 0);
        r.refused(BAD, Run.Op.EXPRESSION, 6, 0, 0, 0);
        for (int far : FAR) {
            r.refused(BAD, Run.Op.EXPRESSION, far, 0, 0, 0);
        }
        r.due(11, Run.Op.EXPRESSION, NAME, 0, 0, 0);
        r.due(12, Run.Op.EXPRESSION, CONSTANT, 0, 0, 0);
    }

    /** "NAME x (0 .. 15)"; what it has not is not looked at. */
    static void promise08_name_noughtToFifteen() {
        Run r = worldWithTold();
        r.refused(BAD, Run.Op.EXPRESSION, NAME, -1, 0, 0);
        r.refused(BAD, Run.Op.EXPRESSION, NAME, 16, 0, 0);
        for (int far : FAR) {
            r.refused(BAD, Run.Op.EXPRESSION, NAME, far, 0, 0);
        }
        r.due(11, Run.Op.EXPRESSION, NAME, 0, -1, -1);
        r.due(12, Run.Op.EXPRESSION, NAME, 15, Integer.MAX_VALUE, Integer.MIN_VALUE);
        r.typed(r.lambda(15, 12), new int[] {ARROW, -1, -1}, NONE, 0);
        r.typed(r.lambda(0, 11), new int[] {ARROW, -1, -1}, NONE, 0);
    }

    /** "0 .. 15": each of the sixteen is a name of its own. */
    static void promise08_name_eachOfTheSixteen() {
        Run r = new Run();
        int e = r.name(0);
        for (int x = 1; x < 16; x++) {
            e = r.lambda(x, e);
        }
        r.refused(NO, Run.Op.INFER, e);
        r.due(33, Run.Op.INFER, r.lambda(0, e));
        for (int x = 1; x < 16; x++) {
            int own = r.lambda(x, r.lambda((x + 1) % 16, r.lambda(x - 1, r.name(x))));
            r.typed(own, new int[] {ARROW, -1, ARROW, -2, ARROW, -3, -1}, NONE, 0);
        }
    }

    /** "LAMBDA a is x" */
    static void promise08_lambda_itsNameIsNoughtToFifteen() {
        Run r = worldWithTold();
        r.refused(BAD, Run.Op.EXPRESSION, LAMBDA, -1, 0, 0);
        r.refused(BAD, Run.Op.EXPRESSION, LAMBDA, 16, 0, 0);
        for (int far : FAR) {
            r.refused(BAD, Run.Op.EXPRESSION, LAMBDA, far, 0, 0);
        }
        r.due(11, Run.Op.EXPRESSION, LAMBDA, 0, 0, 0);
        r.due(12, Run.Op.EXPRESSION, LAMBDA, 15, 0, 0);
    }

    /** "parts were made before" */
    static void promise08_lambda_itsPartIsMadeBefore() {
        Run r = worldWithTold();
        r.refused(BAD, Run.Op.EXPRESSION, LAMBDA, 0, -1, 0);
        r.refused(BAD, Run.Op.EXPRESSION, LAMBDA, 0, 11, 0);
        r.refused(BAD, Run.Op.EXPRESSION, LAMBDA, 0, 12, 0);
        for (int far : FAR) {
            r.refused(BAD, Run.Op.EXPRESSION, LAMBDA, 0, far, 0);
        }
        r.due(11, Run.Op.EXPRESSION, LAMBDA, 0, 0, -1);
        r.due(12, Run.Op.EXPRESSION, LAMBDA, 0, 11, Integer.MAX_VALUE);
    }

    /** "parts were made before": the first of an APPLY. */
    static void promise08_apply_itsFirstPartIsMadeBefore() {
        Run r = worldWithTold();
        r.refused(BAD, Run.Op.EXPRESSION, APPLY, -1, 0, 0);
        r.refused(BAD, Run.Op.EXPRESSION, APPLY, 11, 0, 0);
        r.refused(BAD, Run.Op.EXPRESSION, APPLY, 12, 0, 0);
        for (int far : FAR) {
            r.refused(BAD, Run.Op.EXPRESSION, APPLY, far, 0, 0);
        }
        r.due(11, Run.Op.EXPRESSION, APPLY, 0, 0, -1);
        r.due(12, Run.Op.EXPRESSION, APPLY, 11, 0, Integer.MAX_VALUE);
    }

    /** "parts were made before": the second of an APPLY. */
    static void promise08_apply_itsSecondPartIsMadeBefore() {
        Run r = worldWithTold();
        r.refused(BAD, Run.Op.EXPRESSION, APPLY, 0, -1, 0);
        r.refused(BAD, Run.Op.EXPRESSION, APPLY, 0, 11, 0);
        r.refused(BAD, Run.Op.EXPRESSION, APPLY, 0, 12, 0);
        for (int far : FAR) {
            r.refused(BAD, Run.Op.EXPRESSION, APPLY, 0, far, 0);
        }
        r.due(11, Run.Op.EXPRESSION, APPLY, 0, 0, 0);
        r.due(12, Run.Op.EXPRESSION, APPLY, 0, 11, 0);
    }

    /** The a of an APPLY is an expression, no name: it may be more than 15. */
    static void promise08_apply_itsFirstPartIsNoName() {
        Run r = worldWithTold();
        for (int i = 11; i < 18; i++) {
            r.name(0);
        }
        r.due(18, Run.Op.EXPRESSION, APPLY, 17, 16, 0);
        r.refused(BAD, Run.Op.EXPRESSION, LAMBDA, 17, 16, 0);
        r.refused(BAD, Run.Op.EXPRESSION, LET, 17, 16, 16);
    }

    /** "LET a is x" */
    static void promise08_let_itsNameIsNoughtToFifteen() {
        Run r = worldWithTold();
        r.refused(BAD, Run.Op.EXPRESSION, LET, -1, 0, 0);
        r.refused(BAD, Run.Op.EXPRESSION, LET, 16, 0, 0);
        for (int far : FAR) {
            r.refused(BAD, Run.Op.EXPRESSION, LET, far, 0, 0);
        }
        r.due(11, Run.Op.EXPRESSION, LET, 0, 0, 0);
        r.due(12, Run.Op.EXPRESSION, LET, 15, 0, 0);
    }

    /** "parts were made before": the e of a LET. */
    static void promise08_let_itsEIsMadeBefore() {
        Run r = worldWithTold();
        r.refused(BAD, Run.Op.EXPRESSION, LET, 0, -1, 0);
        r.refused(BAD, Run.Op.EXPRESSION, LET, 0, 11, 0);
        r.refused(BAD, Run.Op.EXPRESSION, LET, 0, 12, 0);
        for (int far : FAR) {
            r.refused(BAD, Run.Op.EXPRESSION, LET, 0, far, 0);
        }
        r.due(11, Run.Op.EXPRESSION, LET, 0, 0, 0);
        r.due(12, Run.Op.EXPRESSION, LET, 0, 11, 0);
    }

    /** "parts were made before": the f of a LET. */
    static void promise08_let_itsFIsMadeBefore() {
        Run r = worldWithTold();
        r.refused(BAD, Run.Op.EXPRESSION, LET, 0, 0, -1);
        r.refused(BAD, Run.Op.EXPRESSION, LET, 0, 0, 11);
        r.refused(BAD, Run.Op.EXPRESSION, LET, 0, 0, 12);
        for (int far : FAR) {
            r.refused(BAD, Run.Op.EXPRESSION, LET, 0, 0, far);
        }
        r.due(11, Run.Op.EXPRESSION, LET, 0, 0, 0);
        r.due(12, Run.Op.EXPRESSION, LET, 0, 0, 11);
    }

    /** "METHOD a is the class (one with a method)" */
    static void promise08_method_firstAndLastClass() {
        Run r = worldWithTold();
        r.refused(BAD, Run.Op.EXPRESSION, METHOD_OF, -1, 0, 0);
        r.refused(BAD, Run.Op.EXPRESSION, METHOD_OF, 3, 0, 0);
        for (int far : FAR) {
            r.refused(BAD, Run.Op.EXPRESSION, METHOD_OF, far, 0, 0);
        }
        r.due(11, Run.Op.EXPRESSION, METHOD_OF, 0, -1, -1);
        r.due(12, Run.Op.EXPRESSION, METHOD_OF, 2, Integer.MAX_VALUE, Integer.MIN_VALUE);
    }

    /** "one with a method": also when a class above or under it has one. */
    static void promise08_method_classWithoutOne() {
        Run r = worldWithTold();
        int between = r.class0(ORD);
        r.method(r.class0(between), V0);
        r.refused(BAD, Run.Op.EXPRESSION, METHOD_OF, between, 0, 0);
        r.due(1, Run.Op.METHOD, between, V0);
        r.due(11, Run.Op.EXPRESSION, METHOD_OF, between, 0, 0);
    }

    /** "CONSTANT a is the type" */
    static void promise08_constant_firstAndLastType() {
        Run r = worldWithTold();
        r.refused(BAD, Run.Op.EXPRESSION, CONSTANT, -1, 0, 0);
        r.refused(BAD, Run.Op.EXPRESSION, CONSTANT, 10, 0, 0);
        for (int far : FAR) {
            r.refused(BAD, Run.Op.EXPRESSION, CONSTANT, far, 0, 0);
        }
        r.due(11, Run.Op.EXPRESSION, CONSTANT, 0, -1, -1);
        r.due(12, Run.Op.EXPRESSION, CONSTANT, 9, Integer.MAX_VALUE, Integer.MIN_VALUE);
        r.typed(11, new int[] {-1}, NONE, 0);
        r.typed(12, new int[] {ARROW, INT, ARROW, INT, INT}, NONE, 0);
    }

    /** Only types are kept once: equal expressions have numbers of their own. */
    static void promise08_number_equalOnesHaveTheirOwn() {
        Run r = worldWithTold();
        r.due(11, Run.Op.EXPRESSION, NAME, 3, 0, 0);
        r.due(12, Run.Op.EXPRESSION, NAME, 3, 0, 0);
        r.due(13, Run.Op.EXPRESSION, APPLY, 11, 12, 0);
        r.due(14, Run.Op.EXPRESSION, APPLY, 11, 12, 0);
    }

    private static Run withExpressions(int count) {
        Run r = worldWithTold();
        for (int i = 11; i < count; i++) {
            r.name(i % 16);
        }
        return r;
    }

    /** "EXPRESSIONS are numbered from 0, at most 120": the 120th is the last one. */
    static void promise08_full_theLastOne() {
        withExpressions(118).due(118, Run.Op.EXPRESSION, NAME, 0, 0, 0);
        Run r = withExpressions(119);
        // Expression 101 is NAME 101 % 16.
        r.due(119, Run.Op.EXPRESSION, LAMBDA, 5, 101, 0);
        r.refused(FULL, Run.Op.EXPRESSION, NAME, 0, 0, 0);
        r.refused(FULL, Run.Op.EXPRESSION, LAMBDA, 0, 119, 0);
        r.refused(FULL, Run.Op.EXPRESSION, APPLY, 119, 119, 0);
        r.refused(FULL, Run.Op.EXPRESSION, LET, 0, 119, 119);
        r.refused(FULL, Run.Op.EXPRESSION, METHOD_OF, EQ, 0, 0);
        r.refused(FULL, Run.Op.EXPRESSION, CONSTANT, 0, 0, 0);
        r.due(120, Run.Op.EXPRESSIONS);
        r.typed(119, new int[] {ARROW, -1, -1}, NONE, 0);
    }

    static void promise08_full_badIsBadStill() {
        Run r = withExpressions(120);
        r.refused(BAD, Run.Op.EXPRESSION, NAME, 16, 0, 0);
        r.refused(BAD, Run.Op.EXPRESSION, LAMBDA, 0, 120, 0);
        r.refused(BAD, Run.Op.EXPRESSION, APPLY, 120, 0, 0);
        r.refused(BAD, Run.Op.EXPRESSION, LET, 0, 0, 120);
        r.refused(BAD, Run.Op.EXPRESSION, METHOD_OF, 3, 0, 0);
        r.refused(BAD, Run.Op.EXPRESSION, CONSTANT, 10, 0, 0);
        r.refused(BAD, Run.Op.EXPRESSION, 6, 0, 0, 0);
    }

    /** "TOO LARGE" ones may be made, for it is infer that refuses them. */
    static void promise08_tooLarge_mayBeMade() {
        Run r = new Run();
        int e = r.name(0);
        for (int i = 1; i < 119; i++) {
            r.due(i, Run.Op.EXPRESSION, APPLY, e, e, 0);
            e = i;
        }
        r.due(119, Run.Op.EXPRESSION, LET, 0, e, e);
    }

    // Promise 14: is

    static void promise14_class_firstAndLast() {
        Run r = worldWithTold();
        r.instance(EQ, INT, 0, 0);
        r.instance(SHOW, INT, 0, 0);
        r.refused(BAD, Run.Op.IS, -1, OF_INT);
        r.refused(BAD, Run.Op.IS, 3, OF_INT);
        for (int far : FAR) {
            r.refused(BAD, Run.Op.IS, far, OF_INT);
        }
        r.changesNothing(1, Run.Op.IS, 0, OF_INT);
        r.changesNothing(0, Run.Op.IS, 1, OF_INT);
        r.changesNothing(1, Run.Op.IS, 2, OF_INT);
    }

    static void promise14_type_firstAndLast() {
        Run r = new Run();
        r.constructor(0);
        r.class0(-1);
        r.instance(0, 1, 0, 0);
        r.refused(BAD, Run.Op.IS, 0, 0);
        r.type(1, 0, 0);
        r.type(ARROW, 0, 0);
        r.refused(BAD, Run.Op.IS, 0, -1);
        r.refused(BAD, Run.Op.IS, 0, 2);
        for (int far : FAR) {
            r.refused(BAD, Run.Op.IS, 0, far);
        }
        r.changesNothing(1, Run.Op.IS, 0, 0);
        r.changesNothing(0, Run.Op.IS, 0, 1);
    }

    /** "BAD, also when it has variables": one is enough, in the last of sixteen nodes too. */
    static void promise14_variables_oneIsEnough() {
        Run r = world();
        r.instance(EQ, INT, 0, 0);
        r.instance(EQ, LIST, 0, 0);
        r.instance(EQ, PAIR, 0, 0);
        r.refused(BAD, Run.Op.IS, EQ, V0);
        r.refused(BAD, Run.Op.IS, EQ, V1);
        r.refused(BAD, Run.Op.IS, EQ, LIST_V0);
        r.refused(BAD, Run.Op.IS, EQ, V0_TO_INT);
        r.refused(BAD, Run.Op.IS, EQ, INT_TO_V0);
        int t = r.variable(7);
        for (int i = 1; i < 14; i++) {
            t = r.type(LIST, t, 0);
        }
        r.refused(BAD, Run.Op.IS, EQ, r.type(PAIR, OF_INT, t));
        r.refused(BAD, Run.Op.IS, EQ, r.type(PAIR, t, OF_INT));
        r.changesNothing(1, Run.Op.IS, EQ, r.type(PAIR, OF_INT, OF_INT));
    }

    /** What an instance wants of the parts has to be there down to the last of sixteen nodes. */
    static void promise14_parts_downToTheLastNode() {
        Run r = world();
        r.instance(EQ, LIST, 1 << EQ, 0);
        int sixteen = lists(r, 16);
        r.changesNothing(0, Run.Op.IS, EQ, sixteen);
        r.instance(EQ, INT, 0, 0);
        r.changesNothing(1, Run.Op.IS, EQ, sixteen);
        r.changesNothing(1, Run.Op.IS, EQ, OF_INT);
    }

    /** What is wanted of a part is wanted of that one alone. */
    static void promise14_parts_firstAndSecond() {
        Run r = world();
        int list = r.type(LIST, OF_INT, 0);
        int listFirst = r.type(PAIR, list, OF_INT);
        int listSecond = r.type(PAIR, OF_INT, list);
        r.instance(EQ, INT, 0, 0);
        r.instance(EQ, PAIR, 1 << EQ, 0);
        r.instance(SHOW, PAIR, 0, 1 << EQ);
        r.changesNothing(0, Run.Op.IS, EQ, listFirst);
        r.changesNothing(1, Run.Op.IS, EQ, listSecond);
        r.changesNothing(1, Run.Op.IS, SHOW, listFirst);
        r.changesNothing(0, Run.Op.IS, SHOW, listSecond);
    }

    /** The arrow is a constructor as the others are, the first one: it is in a class by an instance. */
    static void promise14_arrow_byAnInstance() {
        Run r = world();
        int arrow = r.type(ARROW, OF_INT, OF_INT);
        int arrows = r.type(ARROW, arrow, OF_INT);
        r.changesNothing(0, Run.Op.IS, EQ, arrow);
        r.instance(EQ, ARROW, 1 << EQ, 0);
        r.changesNothing(0, Run.Op.IS, EQ, arrow);
        r.instance(EQ, INT, 0, 0);
        r.changesNothing(1, Run.Op.IS, EQ, arrow);
        r.changesNothing(1, Run.Op.IS, EQ, arrows);
    }

    /** A class under another one that has an instance is not in it by that. */
    static void promise14_under_isNotEnough() {
        Run r = world();
        r.instance(EQ, INT, 0, 0);
        r.changesNothing(0, Run.Op.IS, ORD, OF_INT);
        r.instance(ORD, INT, 0, 0);
        r.changesNothing(1, Run.Op.IS, ORD, OF_INT);
    }

    // Promise 15: under

    static void promise15_class_firstAndLast() {
        Run r = worldWithTold();
        r.refused(BAD, Run.Op.UNDER, -1, 0);
        r.refused(BAD, Run.Op.UNDER, 3, 0);
        for (int far : FAR) {
            r.refused(BAD, Run.Op.UNDER, far, 0);
        }
        r.changesNothing(1, Run.Op.UNDER, 0, 0);
        r.changesNothing(0, Run.Op.UNDER, 2, 0);
    }

    static void promise15_other_firstAndLast() {
        Run r = worldWithTold();
        r.refused(BAD, Run.Op.UNDER, 0, -1);
        r.refused(BAD, Run.Op.UNDER, 0, 3);
        r.refused(BAD, Run.Op.UNDER, -1, -1);
        for (int far : FAR) {
            r.refused(BAD, Run.Op.UNDER, 0, far);
            r.refused(BAD, Run.Op.UNDER, far, far);
        }
        r.changesNothing(1, Run.Op.UNDER, 1, 0);
        r.changesNothing(0, Run.Op.UNDER, 1, 2);
    }

    /** "a class is UNDER itself and those above it, above these, and so on" */
    static void promise15_chain_ofEight() {
        Run r = new Run();
        for (int c = 0; c < 8; c++) {
            r.class0(c - 1);
        }
        for (int c = 0; c < 8; c++) {
            for (int other = 0; other < 8; other++) {
                r.due(other <= c ? 1 : 0, Run.Op.UNDER, c, other);
            }
        }
    }

    /** "at most one class ABOVE it": two that have the same one above are not under one another. */
    static void promise15_siblings_areNotUnderOneAnother() {
        Run r = new Run();
        r.class0(-1);
        r.class0(0);
        r.class0(0);
        r.class0(-1);
        for (int c = 0; c < 4; c++) {
            for (int other = 0; other < 4; other++) {
                boolean due = c == other || other == 0 && (c == 1 || c == 2);
                r.due(due ? 1 : 0, Run.Op.UNDER, c, other);
            }
        }
    }

    // Promises 16 to 18: types, classes, expressions

    static void promise16_types_fromNoughtToSixty() {
        Run r = new Run();
        r.due(0, Run.Op.TYPES);
        r.variable(1);
        r.due(1, Run.Op.TYPES);
        withTypes(59).due(59, Run.Op.TYPES);
        Run full = withTypes(60);
        full.due(60, Run.Op.TYPES);
        full.refused(FULL, Run.Op.VARIABLE, 0);
        full.due(60, Run.Op.TYPES);
    }

    /** "kept once each": one that there is does not count again, nor does one that was refused. */
    static void promise16_types_onceEach() {
        Run r = worldWithTold();
        r.variable(0);
        r.type(PAIR, V0, V1);
        r.type(PAIR, V0, 10);
        r.variable(8);
        r.due(10, Run.Op.TYPES);
    }

    static void promise17_classes_fromNoughtToEight() {
        for (int count = 0; count <= 8; count++) {
            withClasses(count).due(count, Run.Op.CLASSES);
        }
        Run full = withClasses(8);
        full.class0(-1);
        full.class0(-2);
        full.due(8, Run.Op.CLASSES);
    }

    static void promise18_expressions_fromNoughtToAHundredAndTwenty() {
        Run r = new Run();
        r.due(0, Run.Op.EXPRESSIONS);
        r.name(0);
        r.due(1, Run.Op.EXPRESSIONS);
        withExpressions(119).due(119, Run.Op.EXPRESSIONS);
        Run full = withExpressions(120);
        full.due(120, Run.Op.EXPRESSIONS);
        full.name(0);
        full.name(16);
        full.due(120, Run.Op.EXPRESSIONS);
    }

    /** infer makes types of its own, that are none of the kept ones. */
    static void promise16_17_18_inferMakesNone() {
        Run r = worldWithTold();
        r.due(10, Run.Op.TYPES);
        r.due(3, Run.Op.CLASSES);
        r.due(11, Run.Op.EXPRESSIONS);
    }

    /** "How many .. there are": to ask changes nothing. */
    static void promise16_17_18_askingChangesNothing() {
        Run r = worldWithTold();
        r.changesNothing(10, Run.Op.TYPES);
        r.changesNothing(3, Run.Op.CLASSES);
        r.changesNothing(11, Run.Op.EXPRESSIONS);
        r.changesNothing(2, Run.Op.WANTS);
        r.changesNothing(2, Run.Op.PASSES);
    }

    /** "An INSTANCE of a class for a constructor": one of another class, or for another constructor, is another one. */
    static void promise07_number_eachClassAndConstructor() {
        Run r = world();
        r.due(0, Run.Op.INSTANCE, EQ, INT, 0, 0);
        r.due(0, Run.Op.IS, SHOW, OF_INT);
        r.due(0, Run.Op.IS, EQ, r.type(LIST, OF_INT, 0));
        r.due(1, Run.Op.INSTANCE, SHOW, INT, 0, 0);
        r.due(2, Run.Op.INSTANCE, EQ, LIST, 1 << SHOW, 0);
        r.due(1, Run.Op.IS, SHOW, OF_INT);
        r.due(1, Run.Op.IS, EQ, r.type(LIST, OF_INT, 0));
        r.due(0, Run.Op.IS, SHOW, r.type(LIST, OF_INT, 0));
    }
}
