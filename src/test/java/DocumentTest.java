import java.io.IOException;
import java.lang.reflect.Method;
import java.nio.file.Files;
import java.nio.file.Path;
import java.util.ArrayList;
import java.util.LinkedHashMap;
import java.util.List;
import java.util.Map;

/** Each sentence of the document's terms and promises has a test, and each test's words stand in the document. */
public final class DocumentTest {
    private static final Path DOCUMENT = Path.of("..", "shared", "DOC.md");
    private static final List<Class<?>> TESTS = List.of(TermsTest.class, NumbersTest.class, TextsTest.class,
            LooksTest.class, WouldBeTest.class);
    private static final int PROMISES = 28;
    /** Sentences that tell the order of the interface, or what the return types in FaceTest tell. */
    private static final List<String> WITHOUT_A_TEST = List.of("the interface says: ----",
            "All numbers are integers, but for a share.");

    public static void main(String[] args) throws IOException {
        Map<String, List<String>> sections = sections();
        for (int promise = 1; promise <= PROMISES; promise++) {
            Check.isTrue("promise " + promise + " in the document", sections.containsKey("Promise " + promise));
        }
        Map<String, List<String>> quotes = quotesIn(sections);
        int sentences = 0;
        for (String section : sections.keySet()) {
            if (section.equals("Terms") || section.startsWith("Promise ")) {
                for (String sentence : sections.get(section)) {
                    sentences++;
                    boolean isTested = holdsOneOf(sentence, WITHOUT_A_TEST)
                            || holdsOneOf(sentence, quotes.getOrDefault(section, List.of()));
                    Check.isTrue(section + ": a test of \"" + sentence + "\"", isTested);
                }
            }
        }
        System.out.println(sentences + " sentences of the document");
        Check.end();
    }

    private static boolean holdsOneOf(String sentence, List<String> parts) {
        for (String part : parts) {
            if (sentence.contains(part)) {
                return true;
            }
        }
        return false;
    }

    /** What the tests quote, by section, after each quote has been met with that section. */
    private static Map<String, List<String>> quotesIn(Map<String, List<String>> sections) {
        Map<String, List<String>> quotes = new LinkedHashMap<>();
        for (Class<?> tests : TESTS) {
            for (Method method : Check.testsOf(tests)) {
                Sentence sentence = method.getAnnotation(Sentence.class);
                for (String quote : sentence.says()) {
                    meetQuote(method, quote, sections.getOrDefault(sentence.of(), List.of()));
                    quotes.computeIfAbsent(sentence.of(), section -> new ArrayList<>()).add(quote);
                }
                String prefix = sentence.of().startsWith("Promise ")
                        ? "promise" + sentence.of().substring(8) + "_" : "terms_";
                Check.isTrue(method.getName() + " begins with " + prefix, method.getName().startsWith(prefix));
            }
        }
        return quotes;
    }

    private static void meetQuote(Method method, String quote, List<String> sentences) {
        boolean stands = false;
        for (String sentence : sentences) {
            stands |= sentence.contains(quote);
        }
        Check.isTrue(method.getName() + ": \"" + quote + "\" in one sentence of its section", stands);
    }

    /** The sentences of each section, "Promise 3: put" by "Promise 3"; what stands between ";" counts by itself. */
    private static Map<String, List<String>> sections() throws IOException {
        Map<String, List<String>> sections = new LinkedHashMap<>();
        List<String> sentences = new ArrayList<>();
        for (String line : Files.readAllLines(DOCUMENT)) {
            if (line.startsWith("## ")) {
                sentences = new ArrayList<>();
                sections.put(line.substring(3).split(":")[0], sentences);
            } else if (!line.isBlank()) {
                sentences.addAll(List.of(line.split("(?<=[.;]|[.]\\))\\s+")));
            }
        }
        return sections;
    }
}
