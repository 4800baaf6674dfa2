import java.io.IOException;
import java.nio.charset.StandardCharsets;
import java.nio.file.Files;
import java.nio.file.Path;
import java.util.ArrayList;
import java.util.LinkedHashSet;
import java.util.List;
import java.util.Map;
import java.util.Set;
import java.util.TreeMap;
import java.util.regex.Matcher;
import java.util.regex.Pattern;

/** The face and the sentences of ../shared/DOC.md, and which of the sentences have been tested. */
final class Document {
    private static final Path DOCUMENT = Path.of("../shared/DOC.md");
    private static final Pattern PROMISE = Pattern.compile("## Promise (\\d+): .*");
    private static final Map<Integer, Set<String>> TESTED = new TreeMap<>();

    private Document() {
    }

    static void said(int promise, String sentence) {
        TESTED.computeIfAbsent(promise, none -> new LinkedHashSet<>()).add(sentence);
    }

    /** Each sentence has a test, and each test tells a sentence that stands in the document. */
    static void compare() {
        Map<Integer, Set<String>> all = sentences();
        Check.is("the promises", all.keySet().toString(), TESTED.keySet().toString());
        for (int promise : all.keySet()) {
            Set<String> tested = TESTED.getOrDefault(promise, Set.of());
            Check.is("promise " + promise + ": sentences without a test", without(all.get(promise), tested), List.of());
            Check.is("promise " + promise + ": tests without a sentence", without(tested, all.get(promise)), List.of());
        }
    }

    /** The lines of the public face, as they stand in the document. */
    static List<String> face() {
        List<String> all = new ArrayList<>();
        boolean isFace = false;
        for (String line : lines()) {
            if (line.startsWith("```")) {
                isFace = !isFace;
            } else if (isFace && !line.isBlank()) {
                all.add(line.strip());
            }
        }
        return all;
    }

    private static List<String> without(Set<String> some, Set<String> others) {
        List<String> left = new ArrayList<>(some);
        left.removeAll(others);
        return left;
    }

    private static Map<Integer, Set<String>> sentences() {
        Map<Integer, Set<String>> all = new TreeMap<>();
        boolean isFace = false;
        int promise = 0;
        for (String line : lines()) {
            Matcher heading = PROMISE.matcher(line);
            if (heading.matches()) {
                promise = Integer.parseInt(heading.group(1));
            } else if (line.startsWith("## Not promised")) {
                break;
            } else if (line.startsWith("```")) {
                isFace = !isFace;
            } else if (!isFace && isTold(line)) {
                Set<String> here = all.computeIfAbsent(promise, none -> new LinkedHashSet<>());
                here.addAll(List.of(plain(line).split("(?<=\\.) (?=[A-Z])")));
            }
        }
        return all;
    }

    // It lies beside the project wherever the tests run: without it they fail.
    private static List<String> lines() {
        try {
            return Files.readAllLines(DOCUMENT, StandardCharsets.UTF_8);
        } catch (IOException unread) {
            throw new IllegalStateException(unread);
        }
    }

    // Headings promise nothing.
    private static boolean isTold(String line) {
        return !line.isBlank() && !line.startsWith("#") && !line.matches("\\d+\\. \\w+");
    }

    private static String plain(String line) {
        return line.replaceFirst("^`[^`]*\\)[^`]*`: ", "").replaceFirst("^- ", "").replace("`", "").strip();
    }
}
