import java.io.IOException;
import java.nio.file.Files;
import java.nio.file.Path;
import java.util.ArrayList;
import java.util.HashMap;
import java.util.List;
import java.util.Map;
import java.util.regex.Matcher;
import java.util.regex.Pattern;

/** README's example stands here line by line, and its answers are the ones that README tells. */
final class ReadmeTest {
    private static final Path README = Path.of("README.md");
    private static final Path HERE = Path.of("src/test/java/ReadmeTest.java");
    /** A line that keeps an answer, with the number that is due in its comment. */
    private static final Pattern ANSWER = Pattern.compile("int (\\w+) = .*; +// (-?\\d+)");

    public static void main(String[] args) throws IOException {
        isTheSameExample();
        theAnswersAreAsTold();
        Due.end();
    }

    private static void isTheSameExample() throws IOException {
        List<String> told = between(README, "```java", "```");
        List<String> run = between(HERE, "// The example begins.", "// The example ends.");
        Due.is("lines of the example", run.size(), told.size());
        for (int k = 0; k < Math.min(told.size(), run.size()); k++) {
            Due.is("README's line: " + told.get(k), run.get(k).equals(told.get(k)) ? 1 : 0, 1);
        }
    }

    /** The lines between the first that is the one mark and the next that is the other. */
    private static List<String> between(Path file, String begin, String end) throws IOException {
        List<String> found = new ArrayList<>();
        boolean inside = false;
        for (String line : Files.readAllLines(file)) {
            String plain = line.strip();
            if (inside && plain.equals(end)) {
                return found;
            }
            if (inside) {
                found.add(plain.replaceAll("\\s*//.*", ""));
            }
            inside = inside || plain.equals(begin);
        }
        Due.is("an end of the example in " + file, 0, 1);
        return found;
    }

    private static void theAnswersAreAsTold() throws IOException {
        Map<String, Integer> answers = answersOfTheExample();
        int told = 0;
        for (String line : Files.readAllLines(README)) {
            Matcher answer = ANSWER.matcher(line);
            if (answer.lookingAt()) {
                told++;
                Due.is(line, answers.getOrDefault(answer.group(1), Integer.MIN_VALUE),
                    Integer.parseInt(answer.group(2)));
            }
        }
        Due.is("answers that README tells", told, answers.size());
    }

    private static Map<String, Integer> answersOfTheExample() {
        // The example begins.
        BoundChains x = new BoundChains();
        int traced = x.binding(false);
        int stored = x.binding(true);
        x.carry(stored, traced, 0);
        int i = x.interceptor(1, 1 + 2, 3);
        x.bindInterceptor(i, traced, 0);
        int d = x.decorator(1, 0, 15, 0);
        int c = x.component(1);
        x.bind(c, -1, stored, 5);
        x.flags(c, 2, 1);
        int wrong = x.deploy();
        x.flags(c, 2, 0);
        int deployed = x.deploy();
        int length = x.length(c, 2);
        int second = x.element(c, 2, 1);
        int entries = x.invoke(c, 2, 10);
        int result = x.result();
        int last = x.log(2);
        int refused = x.binding(true);
        int made = x.invoke(c, 4, 0);
        int error = x.error();
        x.clear();
        int gone = x.length(c, 2);
        // The example ends.
        Map<String, Integer> answers = new HashMap<>();
        answers.put("wrong", wrong);
        answers.put("deployed", deployed);
        answers.put("length", length);
        answers.put("second", second);
        answers.put("entries", entries);
        answers.put("result", result);
        answers.put("last", last);
        answers.put("refused", refused);
        answers.put("made", made);
        answers.put("error", error);
        answers.put("gone", gone);
        Due.is("the decorator is decorator 0", d, 0);
        return answers;
    }
}
