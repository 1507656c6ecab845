import java.io.IOException;
import java.lang.reflect.Method;
import java.nio.file.Files;
import java.nio.file.Path;
import java.util.BitSet;
import java.util.HashSet;
import java.util.LinkedHashMap;
import java.util.Map;
import java.util.Set;

/**
 * The words that the tests of sentences name stand in the document, under the heading they name,
 * and no word of "What it is", of "Terms" and of the promises is left without a test.
 */
final class SentencesTest {
    private static final Path DOCUMENT = Path.of("../shared/DOC.md");
    private static final Class<?>[] TESTS = {DeclaringSentencesTest.class,
        DeploySentencesTest.class, ChainSentencesTest.class, InvokeSentencesTest.class,
        RefusalSentencesTest.class, WholeSentencesTest.class};

    public static void main(String[] args) throws IOException {
        Map<String, String> sections = sections(Files.readString(DOCUMENT));
        Map<String, BitSet> tested = new LinkedHashMap<>();
        Set<String> names = new HashSet<>();
        for (Class<?> test : TESTS) {
            for (Method one : Sentences.methodsOf(test)) {
                Due.is("one test is named " + one.getName(), names.add(one.getName()) ? 1 : 0, 1);
                find(one, sections, tested);
            }
        }
        everyWordIsTested("What it is", sections, tested);
        everyWordIsTested("Terms", sections, tested);
        for (int promise = 1; promise <= 18; promise++) {
            everyWordIsTested("Promise " + promise, sections, tested);
        }
        Due.end();
    }

    /** The text below each heading, without the names of promises, fences and line ends. */
    private static Map<String, String> sections(String document) {
        Map<String, String> sections = new LinkedHashMap<>();
        for (String part : document.split("(?m)^## ")) {
            String[] headingAndText = part.split("\n", 2);
            String text = headingAndText.length < 2 ? "" : headingAndText[1];
            sections.put(headingAndText[0].split(":")[0].strip(),
                text.replaceAll("(?m)^```.*$", " ").replaceAll("\\s+", " "));
        }
        return sections;
    }

    private static void find(Method test, Map<String, String> sections,
            Map<String, BitSet> tested) {
        Says says = test.getAnnotation(Says.class);
        String text = sections.getOrDefault(says.under(), "");
        BitSet marks = tested.computeIfAbsent(says.under(), heading -> new BitSet());
        int at = text.indexOf(says.words());
        Due.is(test.getName() + ": " + says.under() + " says \"" + says.words() + "\"",
            at >= 0 ? 1 : 0, 1);
        if (at >= 0) {
            marks.set(at, at + says.words().length());
        }
    }

    private static void everyWordIsTested(String heading, Map<String, String> sections,
            Map<String, BitSet> tested) {
        String text = sections.getOrDefault(heading, "");
        BitSet marks = tested.getOrDefault(heading, new BitSet());
        StringBuilder left = new StringBuilder();
        for (int k = 0; k < text.length(); k++) {
            left.append(marks.get(k) ? ' ' : text.charAt(k));
        }
        String words = left.toString().replaceAll("\\s+", " ").strip();
        Due.is(heading + " is there", text.isBlank() ? 0 : 1, 1);
        Due.is(heading + ": no test is for \"" + words + "\"", words.length(), 0);
    }
}
