import java.io.IOException;
import java.nio.file.Files;
import java.nio.file.Path;
import java.util.ArrayList;
import java.util.LinkedHashMap;
import java.util.List;
import java.util.Map;
import java.util.regex.Pattern;

/** The sentences of the document that have a test of their own, and those that need one. */
final class Sentences {
    private static final Path DOCUMENT = Path.of("../shared/DOC.md");
    private static final Pattern UNTOLD = Pattern.compile("What it is|Terms|Promise \\d+:.*");
    // The words by which a sentence names a case at a border: a range, a limit, a condition, a choice, an error code.
    private static final Pattern BORDER = Pattern.compile(
        "\\d+ to \\d+|\\b(at most|at least|exactly|greater|greatest|least|farthest|first one of|of several|if|only|"
            + "never|none|otherwise|oldest|latest|saved last|all of them|allowed|empty|initially|numbered|lower by|"
            + "rounds|overflow|equal|up in|changes? nothing|stays?|kept|passed over|both|removed|closed?|order of|NONE|"
            + "LIMIT|NO_SUCH|BAD_VALUE|BAD_TEXT|NOT_POSSIBLE)\\b");
    // What only names a thing: the headings' calls, the arguments' names, the words that begin a paragraph.
    private static final Pattern NAME = Pattern.compile(
        "-? ?`[^`]*`:?|[A-Z][a-z]+( [a-z]+)?[.:]|the stroke|a stroke|Returns the number.?|.*the interface says:?|"
            + "There is no such result|A limit would be exceeded|Returns (its|the) [^;]* then");

    private static final Map<String, List<String>> QUOTED = new LinkedHashMap<>();

    private Sentences() {
    }

    /** Runs the test of a sentence, or of a part of it, which stands in the section whose title begins so. */
    static void test(String section, String quote, Runnable test) {
        QUOTED.computeIfAbsent(section, s -> new ArrayList<>()).add(quote);
        Bench.run(section + ", \"" + quote + "\"", test);
    }

    private static List<String> quotesOf(String title) {
        return QUOTED.getOrDefault(title.replaceFirst(":.*", ""), List.of());
    }

    private static void compareSection(String title, String text) {
        for (String quote : quotesOf(title)) {
            Check.holds("the document says under " + title + ": " + quote, text.contains(quote));
        }
        for (String line : text.split("\n")) {
            for (String part : line.split("(?<=[.;:])\\s+")) {
                String words = part.trim().replaceFirst("[.;:]$", "");
                boolean names = words.isEmpty() || NAME.matcher(part.trim()).matches() || NAME.matcher(words).matches();
                if (!names && BORDER.matcher(words).find()) {
                    boolean tested = quotesOf(title).stream().anyMatch(q -> words.contains(q) || q.contains(words));
                    Check.holds("a test of its own, " + title + ": " + words, tested);
                }
            }
        }
    }

    /** Each quote stands in the document, and each of its sentences that names a border has a quote. */
    static void compare() {
        String document;
        try {
            document = Files.readString(DOCUMENT);
        } catch (IOException e) {
            System.out.println("the sentences are not compared: there is no " + DOCUMENT);
            return;
        }
        int compared = 0;
        for (String section : document.split("(?m)^## ")) {
            String title = section.substring(0, Math.max(0, section.indexOf('\n')));
            if (UNTOLD.matcher(title).matches()) {
                compareSection(title, section.substring(title.length()));
                compared++;
            }
        }
        Check.due("sections that are compared", compared, 33);
    }
}
