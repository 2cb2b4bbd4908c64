import java.io.IOException;
import java.nio.file.DirectoryStream;
import java.nio.file.Files;
import java.nio.file.Path;
import java.util.ArrayList;
import java.util.List;
import java.util.regex.Matcher;
import java.util.regex.Pattern;

/** Every sentence that a test says is the document's, and every sentence of the document is said by a test. */
public final class DocTest {
    private static final Path DOC = Path.of("../shared/DOC.md");
    private static final Path TESTS = Path.of("src/test/java");
    private static final Pattern SAYS = Pattern.compile("Check\\.says\\(((?:\"(?:[^\"\\\\]|\\\\.)*\"|[\\s+])+)\\);");
    private static final Pattern LITERAL = Pattern.compile("\"((?:[^\"\\\\]|\\\\.)*)\"");

    public static void main(String[] args) throws IOException {
        String doc = sentences(Files.readString(DOC));
        List<String> said = said();
        boolean[] covered = new boolean[doc.length()];
        for (String words : said) {
            Check.due("the document has: " + words, doc.contains(words), true);
            cover(doc, words, covered);
        }
        Check.due("sentences are said", said.size() > 100, true);
        for (String left : leftOver(doc, covered)) {
            Check.due("no test says: " + left, true, false);
        }
        Check.end();
    }

    /** What the document promises, in one line: without headings, rules, numbers of chapters and heads of methods. */
    private static String sentences(String doc) {
        String use = doc.substring(doc.indexOf("An object is used"), doc.indexOf("## The public face"));
        String terms = doc.substring(doc.indexOf("## Terms"), doc.indexOf("## Not promised"));
        return (use + terms).replaceAll("(?m)^#.*$", " ").replaceAll("```(text)?", " ").replaceAll("==== \\d\\.", " ")
                .replaceAll("`[^`]*`:", " ").replaceAll("\\s+", " ");
    }

    private static List<String> said() throws IOException {
        List<String> said = new ArrayList<>();
        try (DirectoryStream<Path> files = Files.newDirectoryStream(TESTS, "*Test.java")) {
            for (Path file : files) {
                Matcher call = SAYS.matcher(Files.readString(file));
                while (call.find()) {
                    StringBuilder words = new StringBuilder();
                    Matcher literal = LITERAL.matcher(call.group(1));
                    while (literal.find()) {
                        words.append(literal.group(1));
                    }
                    said.add(words.toString());
                }
            }
        }
        return said;
    }

    private static void cover(String doc, String words, boolean[] covered) {
        for (int at = doc.indexOf(words); at >= 0 && !words.isEmpty(); at = doc.indexOf(words, at + 1)) {
            for (int k = 0; k < words.length(); k++) {
                covered[at + k] = true;
            }
        }
    }

    private static List<String> leftOver(String doc, boolean[] covered) {
        List<String> left = new ArrayList<>();
        StringBuilder now = new StringBuilder();
        for (int k = 0; k <= doc.length(); k++) {
            if (k < doc.length() && !covered[k]) {
                now.append(doc.charAt(k));
            } else {
                if (!now.toString().isBlank()) {
                    left.add(now.toString().trim());
                }
                now.setLength(0);
            }
        }
        return left;
    }
}
