import java.io.IOException;
import java.nio.charset.StandardCharsets;
import java.nio.file.Files;
import java.nio.file.Path;
import java.util.regex.Matcher;
import java.util.regex.Pattern;

/** Those rules of ../shared/LANGUAGE.md that can be seen in the source's text alone. */
final class LanguageTest {
    private static final String[] RULED_OUT = {
        "->", "::", "\\+ *\"", "\" *\\+", "\\w+Exact\\b", "\\bfinally\\b", "\\bcatch\\b", "\\bsynchronized\\b",
        "\\bassert\\b", "\\brecord\\b", "\\bvar\\b", "\\bstatic *\\{", "\\bpackage\\b", "\\binstanceof\\b",
        "\\bprotected\\b", "\\bthrow new (?!NoSuchElementException\\(\")", "\\bSystem\\.(?!arraycopy)",
        "\\bInteger\\.", "\\bLong\\.(?!bitCount)", "\\bMath\\.(?!min|max)", "\\bArrays\\.", "\\bString\\b",
        "\\bimport (?!java\\.util\\.NoSuchElementException;)", "\\bwhile *\\( *true", "for *\\( *; *;"};

    private LanguageTest() {
    }

    public static void main(String[] args) throws IOException {
        String source = Files.readString(Path.of("src/main/java/PayoutDesk.java"), StandardCharsets.ISO_8859_1);
        String code = source.replaceAll("(?s)/\\*.*?\\*/", "").replaceAll("//.*", "");
        for (String form : RULED_OUT) {
            Matcher found = Pattern.compile(form).matcher(code);
            boolean there = found.find();
            Check.due("is there: " + form + (there ? " at " + found.group() : ""), there, false);
        }
        Check.due("signs above 127", source.chars().anyMatch(c -> c > 127), false);
        Check.due("classes but a dozen", count(code, "\\bclass \\w") <= 12, true);
        objectsAreMadeInConstructorsAlone(code);
        Check.finish("LanguageTest");
    }

    private static int count(String code, String form) {
        int count = 0;
        Matcher found = Pattern.compile(form).matcher(code);
        while (found.find()) {
            count++;
        }
        return count;
    }

    /** Each "new" stands in a field's line, in a constructor's loop (for an array's element), or is thrown. */
    private static void objectsAreMadeInConstructorsAlone(String code) {
        for (String line : code.split("\n")) {
            if (line.contains("new ") && !line.contains("throw new ")) {
                boolean field = line.matches(" +private (final )?\\w+(\\[\\])* \\w+ = new .*;");
                boolean element = line.matches(" +\\w+\\[i\\] = new \\w+\\(\\);");
                Check.due("an object made in: " + line.trim(), field || element, true);
            }
        }
    }
}
