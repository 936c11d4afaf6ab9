import java.io.IOException;
import java.nio.file.Files;
import java.nio.file.Path;
import java.util.ArrayList;
import java.util.List;
import java.util.Map;
import java.util.TreeMap;
import java.util.regex.Matcher;
import java.util.regex.Pattern;

/**
 * Tells which sentences of the document no test names, and what a test names that is none of them. No test itself:
 * .ci/run is not to fail where only the document's words change.
 */
public final class Sentences {
    private static final Path DOCUMENT = Path.of("../shared/DOC.md");
    private static final Pattern NAMED = Pattern.compile("check\\.sentence\\((\\d+), \"((?:[^\"\\\\]|\\\\.)*)\"\\)");
    private static final Pattern PROMISE = Pattern.compile("Promise (\\d+): .*");
    // These tell what the next ones say exactly, or what no call can show.
    private static final List<String> WITHOUT_TEST = List.of("Frost on the panes", "It tells how the window looks",
        "what later calls answer is free", "Ahead of the calls", "Returns a number", "Returns that number.",
        "Returns the frozen cells.", "Returns a neighbour.", "Returns what a side is.", "Tells when a state comes again.",
        "Tells from how many states", "Tells a state from which");
    private static final Check check = new Check("Sentences");

    public static void main(String[] args) throws IOException {
        Map<Integer, String> sections = sections();
        Map<Integer, List<String>> named = named();
        for (Map.Entry<Integer, List<String>> of : named.entrySet()) {
            for (String words : of.getValue()) {
                check.same("stands in " + of.getKey() + ": " + words, sections.getOrDefault(of.getKey(), "").contains(words), true);
            }
        }
        for (Map.Entry<Integer, String> section : sections.entrySet()) {
            List<String> tests = named.getOrDefault(section.getKey(), List.of());
            for (String sentence : sentences(section.getValue())) {
                boolean isNamed = tests.stream().anyMatch(words -> words.contains(sentence) || sentence.contains(words));
                check.same("is named in a test of " + section.getKey() + ": " + sentence, isNamed, true);
            }
        }
        check.close();
    }

    /** What the document says in the terms (0) and in each promise, a blank between all words. */
    private static Map<Integer, String> sections() throws IOException {
        Map<Integer, String> sections = new TreeMap<>();
        for (String section : Files.readString(DOCUMENT).split("(?m)^## ")) {
            String[] parts = section.split("\n", 2);
            Matcher promise = PROMISE.matcher(parts[0]);
            if (promise.matches()) {
                sections.put(Integer.valueOf(promise.group(1)), inOneLine(parts[1]));
            } else if (parts[0].equals("Terms") || parts[0].equals("What it is")) {
                sections.merge(0, inOneLine(parts[1]), (before, more) -> before + " " + more);
            }
        }
        return sections;
    }

    private static String inOneLine(String text) {
        return text.replaceAll("\\s+", " ").trim();
    }

    private static Map<Integer, List<String>> named() throws IOException {
        Map<Integer, List<String>> named = new TreeMap<>();
        try (var files = Files.list(Path.of("src/test/java"))) {
            for (Path file : files.toList()) {
                Matcher matcher = NAMED.matcher(Files.readString(file));
                while (matcher.find()) {
                    named.computeIfAbsent(Integer.valueOf(matcher.group(1)), n -> new ArrayList<>()).add(matcher.group(2));
                }
            }
        }
        return named;
    }

    private static List<String> sentences(String section) {
        String text = section.replaceAll("^`[^`]*`: ", "").replaceAll("(?=\\b(?:Throws|Returns) |- `)", "\n");
        List<String> sentences = new ArrayList<>();
        for (String sentence : text.split("\n|(?<=[.;:)]) +(?=[A-Z(])|(?<=;) ")) {
            String words = sentence.trim();
            if (words.length() > 12 && WITHOUT_TEST.stream().noneMatch(words::startsWith)) {
                sentences.add(words);
            }
        }
        return sentences;
    }
}
