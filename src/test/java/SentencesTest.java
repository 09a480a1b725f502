import java.io.IOException;
import java.lang.reflect.Method;
import java.nio.file.Files;
import java.nio.file.Path;
import java.util.LinkedHashMap;
import java.util.Map;
import java.util.Set;
import java.util.TreeSet;

/** Each sentence of the document that says what the class does has cases: src/test/SENTENCES.md names them. */
public final class SentencesTest {
    private static final Path DOCUMENT = Path.of("../shared/DOC.md");
    private static final Path LIST = Path.of("src/test/SENTENCES.md");
    /** These say how the class looks, or that nothing is said. */
    private static final Set<String> WITHOUT_CASES = Set.of("The public face", "Not promised");

    private static int wrong = 0;

    private static void fault(String what) {
        wrong++;
        System.out.println(what);
    }

    /** The text below each heading of the document, its lines joined. */
    private static Map<String, String> documentSections() throws IOException {
        Map<String, String> sections = new LinkedHashMap<>();
        String heading = null;
        for (String line : Files.readAllLines(DOCUMENT)) {
            if (line.startsWith("## ")) {
                heading = line.substring(3).strip();
                sections.put(heading, "");
            } else if (heading != null && !line.isBlank()) {
                sections.merge(heading, line.strip(), SentencesTest::joined);
            }
        }
        sections.keySet().removeAll(WITHOUT_CASES);
        return sections;
    }

    private static String joined(String before, String next) {
        return before.isEmpty() ? next : before + " " + next;
    }

    /** The sentences below each heading of the list, joined; looks at the cases on the way. */
    private static Map<String, String> listedSections(Set<String> cases, Set<String> named) throws IOException {
        Map<String, String> sections = new LinkedHashMap<>();
        String heading = null;
        String sentence = null;
        int itsCases = 0;
        for (String line : Files.readAllLines(LIST)) {
            if (line.startsWith("## ") || line.startsWith("> ")) {
                checkHasCases(sentence, itsCases);
                sentence = line.startsWith("> ") ? line.substring(2).strip() : null;
                itsCases = 0;
            }
            if (line.startsWith("## ")) {
                heading = line.substring(3).strip();
                sections.put(heading, "");
            } else if (line.startsWith("> ") && heading != null) {
                sections.merge(heading, sentence, SentencesTest::joined);
            } else if (line.startsWith("- ")) {
                itsCases++;
                named.add(line.substring(2).strip());
                if (!cases.contains(line.substring(2).strip())) {
                    fault("there is no case " + line.substring(2));
                }
            }
        }
        checkHasCases(sentence, itsCases);
        return sections;
    }

    private static void checkHasCases(String sentence, int itsCases) {
        if (sentence != null && itsCases == 0) {
            fault("without a case: " + sentence);
        }
    }

    private static Set<String> casesOf(Class<?>... tests) {
        Set<String> names = new TreeSet<>();
        for (Class<?> test : tests) {
            for (Method each : test.getDeclaredMethods()) {
                if (Cases.isCase(each)) {
                    names.add(each.getName());
                }
            }
        }
        return names;
    }

    public static void main(String[] args) throws IOException {
        Set<String> cases = casesOf(TableBoundaryTest.class, InferBoundaryTest.class);
        Set<String> named = new TreeSet<>();
        Map<String, String> listed = listedSections(cases, named);
        Map<String, String> said = documentSections();
        for (String heading : said.keySet()) {
            if (!said.get(heading).equals(listed.get(heading))) {
                fault("\"" + heading + "\" has other sentences in the document than in " + LIST);
            }
        }
        listed.keySet().removeAll(said.keySet());
        for (String heading : listed.keySet()) {
            fault("the document has no \"" + heading + "\"");
        }
        cases.removeAll(named);
        for (String each : cases) {
            fault("no sentence is named for the case " + each);
        }
        System.out.println(named.size() + " cases for the sentences of " + said.size() + " sections, " + wrong + " faults");
        if (wrong != 0) {
            System.exit(1);
        }
    }
}
