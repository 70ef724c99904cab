import java.io.IOException;
import java.nio.charset.StandardCharsets;
import java.nio.file.Files;
import java.nio.file.Path;
import java.util.ArrayList;
import java.util.BitSet;
import java.util.LinkedHashMap;
import java.util.List;
import java.util.Map;
import java.util.regex.Matcher;
import java.util.regex.Pattern;
import java.util.stream.Stream;

/**
 * Each sentence of the "Terms" and of the promises has a test: every word there stands in a Check.sentence of one, and
 * what those quote is what the document says.
 */
final class DocTest {
    private static final Path DOC = Path.of("../shared/DOC.md");
    private static final Path TESTS = Path.of("src/test/java");
    private static final Pattern HEAD =
            Pattern.compile("==== (?<term>\\d)\\.|## Promise (?<promise>\\d+): [^\\n]*|## [^\\n]*|---- [^\\n]*");
    private static final Pattern QUOTE =
            Pattern.compile("Check\\.sentence\\(\\s*\"([^\"]*)\",\\s*((?:\"[^\"]*\"\\s*\\+?\\s*)+)\\)");
    private static final Pattern TEXT = Pattern.compile("\"([^\"]*)\"");

    private DocTest() {
    }

    public static void main(String[] args) throws IOException {
        if (!Files.isRegularFile(DOC)) {
            System.out.println("DocTest: there is no " + DOC + " to compare with");
            return;
        }
        Map<String, String> sections = sections(Files.readString(DOC, StandardCharsets.UTF_8));
        Check.due("sections", sections.size(), 30);
        Map<String, BitSet> tested = new LinkedHashMap<>();
        for (String section : sections.keySet()) {
            tested.put(section, new BitSet());
        }
        for (String[] quote : quotes()) {
            String section = sections.getOrDefault(quote[0], "");
            int at = section.indexOf(quote[1]);
            Check.due("stands in the document: " + quote[0] + ": " + quote[1], at >= 0, true);
            while (at >= 0) {
                tested.get(quote[0]).set(at, at + quote[1].length());
                at = section.indexOf(quote[1], at + 1);
            }
        }
        for (Map.Entry<String, String> section : sections.entrySet()) {
            String left = untested(section.getValue(), tested.get(section.getKey()));
            Check.due("without a test in " + section.getKey() + ": " + left, left.isEmpty(), true);
        }
        Check.finish("DocTest");
    }

    /** "Terms 1", "Terms 2", "Promise 1", .. and their texts, a blank for any blanks, without the method's face. */
    private static Map<String, String> sections(String doc) {
        Map<String, String> sections = new LinkedHashMap<>();
        Matcher head = HEAD.matcher(doc);
        String name = null;
        int begin = 0;
        while (head.find()) {
            if (name != null) {
                sections.put(name, plain(doc.substring(begin, head.start())));
            }
            name = head.group("term") != null ? "Terms " + head.group("term")
                    : head.group("promise") != null ? "Promise " + head.group("promise") : null;
            begin = head.end();
        }
        return sections;
    }

    private static String plain(String text) {
        String words = text.replace("```text", "").replace("```", "").replaceAll("\\s+", " ").trim();
        return words.replaceFirst("^`[^`]*`: ", "").replaceFirst("The constants: .*", "");
    }

    private static List<String[]> quotes() throws IOException {
        List<String[]> quotes = new ArrayList<>();
        List<Path> sources;
        try (Stream<Path> files = Files.list(TESTS)) {
            sources = files.filter(f -> f.toString().endsWith("Test.java")).sorted().toList();
        }
        for (Path source : sources) {
            Matcher quote = QUOTE.matcher(Files.readString(source, StandardCharsets.UTF_8));
            while (quote.find()) {
                StringBuilder words = new StringBuilder();
                Matcher text = TEXT.matcher(quote.group(2));
                while (text.find()) {
                    words.append(text.group(1));
                }
                quotes.add(new String[] {quote.group(1), words.toString()});
            }
        }
        return quotes;
    }

    private static String untested(String text, BitSet tested) {
        StringBuilder left = new StringBuilder();
        for (int i = 0; i < text.length(); i++) {
            left.append(tested.get(i) ? ' ' : text.charAt(i));
        }
        String words = left.toString().replaceAll("\\s+", " ").trim();
        return words.matches(".*[A-Za-z0-9].*") ? words : "";
    }
}
