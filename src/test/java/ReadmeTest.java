import java.io.IOException;
import java.nio.charset.StandardCharsets;
import java.nio.file.Files;
import java.nio.file.Path;
import java.util.ArrayList;
import java.util.List;
import java.util.regex.Matcher;
import java.util.regex.Pattern;
import java.util.stream.Stream;

/** What README.md says holds: the answers of its example, the text that it feeds, its list of tests. */
final class ReadmeTest {
    private static final Pattern CALL = Pattern.compile("desk\\.(\\w+)\\(([^)]*)\\); *(?:// (-?\\w+)(.*))?");
    private static final Pattern TEST = Pattern.compile("\\| (\\w+Test) \\|");

    private ReadmeTest() {
    }

    public static void main(String[] args) throws IOException {
        String readme = Files.readString(Path.of("README.md"), StandardCharsets.UTF_8);
        theExampleAnswersSo(readme);
        everyTestIsListed(readme);
        Check.finish("ReadmeTest");
    }

    private static void theExampleAnswersSo(String readme) {
        PayoutDesk desk = new PayoutDesk();
        int answers = 0;
        Matcher call = CALL.matcher(readme);
        while (call.find()) {
            long[] a = numbers(call.group(2));
            if (call.group(1).equals("feed")) {
                desk.feed((int) a[0], (int) a[1], (int) a[2], (int) a[3], (int) a[4]);
                Check.due(call.group(), text(a).equals(call.group(3) + call.group(4)), true);
            } else {
                Check.due(call.group(), answer(desk, call.group(1), a), Long.parseLong(call.group(3)));
                answers++;
            }
        }
        Check.due("answers in README.md", answers, 5);
    }

    private static long answer(PayoutDesk desk, String name, long[] a) {
        switch (name) {
            case "book": return desk.book((int) a[0]);
            case "view": return desk.view((int) a[0], (int) a[1]);
            case "tell": return desk.tell((int) a[0], (int) a[1]);
            case "undo": return desk.undo();
            default: throw new IllegalArgumentException("ReadmeTest does not know " + name);
        }
    }

    private static long[] numbers(String told) {
        List<Long> numbers = new ArrayList<>();
        for (String number : told.split(", *")) {
            if (!number.isEmpty()) {
                numbers.add(Long.decode(number));
            }
        }
        return numbers.stream().mapToLong(n -> n).toArray();
    }

    /** The bytes of a feed as a text, without the blanks at its end. */
    private static String text(long[] fives) {
        StringBuilder text = new StringBuilder();
        for (long five : fives) {
            for (int shift = 24; shift >= 0; shift -= 8) {
                text.append((char) (five >>> shift & 255));
            }
        }
        return text.toString().stripTrailing();
    }

    private static void everyTestIsListed(String readme) throws IOException {
        List<String> listed = new ArrayList<>();
        Matcher test = TEST.matcher(readme);
        while (test.find()) {
            listed.add(test.group(1));
        }
        int there = 0;
        try (Stream<Path> files = Files.list(Path.of("src/test/java"))) {
            for (Path file : files.toList()) {
                String name = file.getFileName().toString().replace(".java", "");
                if (name.endsWith("Test")) {
                    there++;
                    Check.due(name + " stands in README.md", listed.contains(name), true);
                }
            }
        }
        Check.due("tests that README.md tells of", listed.size(), there);
    }
}
