import java.lang.reflect.Constructor;
import java.lang.reflect.Field;
import java.lang.reflect.Method;
import java.lang.reflect.Modifier;
import java.util.Arrays;
import java.util.Map;
import java.util.Set;
import java.util.TreeMap;
import java.util.TreeSet;

/** The face is the document's and no more, and no method inside bears the name of one of it. */
public final class FaceTest {
    private static int wrong = 0;

    private static void expect(String what, Object got, Object want) {
        if (!got.equals(want)) {
            wrong++;
            System.out.println(what + ": " + got + ", due is " + want);
        }
    }

    private static final Map<String, Integer> FACE = new TreeMap<>(Map.ofEntries(
        Map.entry("constructor", 1), Map.entry("variable", 1), Map.entry("type", 3), Map.entry("class0", 1),
        Map.entry("method", 2), Map.entry("instance", 4), Map.entry("expression", 4), Map.entry("infer", 1),
        Map.entry("shape", 1), Map.entry("wants", 0), Map.entry("want", 2), Map.entry("passes", 0),
        Map.entry("is", 2), Map.entry("under", 2), Map.entry("types", 0), Map.entry("classes", 0),
        Map.entry("expressions", 0)));

    private static void checkMethods() {
        Map<String, Integer> open = new TreeMap<>();
        for (Method m : ClassInference.class.getDeclaredMethods()) {
            boolean isPrivate = Modifier.isPrivate(m.getModifiers());
            if (isPrivate) {
                expect("private " + m.getName(), FACE.containsKey(m.getName()), false);
                continue;
            }
            open.put(m.getName(), m.getParameterCount());
            expect("public " + m.getName(), Modifier.isPublic(m.getModifiers()), true);
            expect("answer of " + m.getName(), m.getReturnType(), int.class);
            expect("ints of " + m.getName(), Arrays.stream(m.getParameterTypes()).allMatch(p -> p == int.class), true);
        }
        expect("methods", open, FACE);
    }

    private static void checkFields() throws IllegalAccessException {
        Map<String, Integer> open = new TreeMap<>();
        for (Field f : ClassInference.class.getDeclaredFields()) {
            if (Modifier.isStatic(f.getModifiers())) {
                expect("final " + f.getName(), Modifier.isFinal(f.getModifiers()), true);
            }
            if (!Modifier.isPrivate(f.getModifiers())) {
                open.put(f.getName(), f.getInt(null));
            }
        }
        expect("constants", open,
            new TreeMap<>(Map.of("BAD", -1, "NO", -2, "FULL", -3, "LACKS", -4, "AMBIGUOUS", -5)));
    }

    private static void checkInside() {
        Set<String> notStatic = new TreeSet<>();
        for (Class<?> inside : ClassInference.class.getDeclaredClasses()) {
            if (!Modifier.isStatic(inside.getModifiers())) {
                notStatic.add(inside.getName());
            }
            for (Method m : inside.getDeclaredMethods()) {
                expect(inside.getName() + "." + m.getName(), FACE.containsKey(m.getName()), false);
            }
        }
        expect("classes inside that are not static", notStatic, Set.of());
    }

    public static void main(String[] args) throws IllegalAccessException {
        Constructor<?>[] constructors = ClassInference.class.getDeclaredConstructors();
        expect("constructors", constructors.length, 1);
        expect("constructor's parameters", constructors[0].getParameterCount(), 0);
        expect("public and final", ClassInference.class.getModifiers(), Modifier.PUBLIC | Modifier.FINAL);
        checkMethods();
        checkFields();
        checkInside();
        System.out.println(wrong == 0 ? "the face is the document's" : wrong + " differences");
        if (wrong != 0) {
            System.exit(1);
        }
    }
}
