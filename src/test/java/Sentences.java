import java.io.IOException;
import java.nio.file.Files;
import java.nio.file.Path;
import java.util.ArrayList;
import java.util.LinkedHashMap;
import java.util.LinkedHashSet;
import java.util.List;
import java.util.Map;
import java.util.Set;
import java.util.regex.Pattern;

/**
 * The sentences of the document, each with the tests that tell it. A test names the section and how its
 * sentence begins, so that no test outlives its sentence and no sentence goes without a test.
 */
final class Sentences {
    private static final Path DOCUMENT = Path.of("../shared/DOC.md");
    private static final Pattern BETWEEN_SENTENCES = Pattern.compile("(?<=\\.|\\.\\))\\s+(?=[A-Z(])");
    private static final String[] NEED_A_TEST = {"- ", "Returns ", "Throws "};

    private final Checks checks;
    private final Map<String, List<String>> sections = new LinkedHashMap<>();
    private final Set<String> tested = new LinkedHashSet<>();

    Sentences(Checks checks) throws IOException {
        this.checks = checks;
        for (String part : Files.readString(DOCUMENT).split("(?m)^## ")) {
            int end = part.indexOf('\n');
            String heading = part.substring(0, end).replaceFirst(":.*", "").trim();
            boolean isPromise = heading.startsWith("Promise");
            sections.put(heading, isPromise ? linesOf(part.substring(end)) : sentencesOf(part.substring(end)));
        }
    }

    /** Runs a test of the one sentence in this section that begins so. */
    void says(String section, String begin, Checks.Call test) {
        List<String> found = new ArrayList<>();
        for (String sentence : sections.getOrDefault(section, List.of())) {
            if (sentence.startsWith(begin)) {
                found.add(sentence);
            }
        }
        checks.is("sentences of " + section + " that begin with '" + begin + "'", 1, found.size());
        if (found.size() != 1) {
            return;
        }
        tested.add(section + ": " + found.get(0));
        checks.during(section + ": " + found.get(0), test);
    }

    /** Each argument, answer and exception of each promise and each sentence of the terms has a test. */
    void allAreTested() {
        int promises = 0;
        for (Map.Entry<String, List<String>> section : sections.entrySet()) {
            boolean isPromise = section.getKey().startsWith("Promise");
            promises += isPromise ? 1 : 0;
            for (String sentence : section.getValue()) {
                if (isPromise ? needsATest(sentence) : section.getKey().equals("Terms")) {
                    String named = section.getKey() + ": " + sentence;
                    checks.is(named + " has a test", true, tested.contains(named));
                }
            }
        }
        checks.is("promises in the document", 37, promises);
    }

    private static boolean needsATest(String line) {
        for (String begin : NEED_A_TEST) {
            if (line.startsWith(begin)) {
                return true;
            }
        }
        return false;
    }

    private static List<String> linesOf(String text) {
        List<String> lines = new ArrayList<>();
        for (String paragraph : text.trim().split("\n\\s*\n|\n(?=- )")) {
            lines.add(paragraph.replaceAll("\\s+", " ").trim());
        }
        return lines;
    }

    private static List<String> sentencesOf(String text) {
        List<String> sentences = new ArrayList<>();
        for (String sentence : BETWEEN_SENTENCES.split(text.replaceAll("\\s+", " ").trim())) {
            // A word alone, as "Ticks.", is a heading.
            if (sentence.contains(" ")) {
                sentences.add(sentence);
            }
        }
        return sentences;
    }
}
