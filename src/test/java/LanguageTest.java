import java.io.IOException;
import java.nio.file.Files;
import java.nio.file.Path;
import java.util.regex.Matcher;
import java.util.regex.Pattern;

/** LANGUAGE.md's rules 2, 4, 6, 10 and 11, as far as they can be seen from the words of the source. */
public final class LanguageTest {
    private static final String[] RULED_OUT = {"\\bthrow\\b", "\\bthrows\\b", "\\btry\\b", "\\bcatch\\b", "\\bsynchronized\\b",
        "\\bassert\\b", "->", "::", "\\bpackage\\b", "\\bInteger\\.", "\\bLong\\.", "Exact\\(", "\\bRandom\\b", "\\bSystem\\.(?!arraycopy)",
        "\\bMath\\.(?!max|min|abs)", "\\bArrays\\.(?!fill|copyOf)", "\"\\s*\\+|\\+\\s*\"", "\\bhashCode\\b", "\\btoString\\b",
        "\\bprotected\\b", "^import (?!java\\.util\\.Arrays;)", "static \\{", "\\bfloat\\b", "\\bdouble\\b", "\\bObject\\b"};

    public static void main(String[] args) throws IOException {
        String source = Files.readString(Path.of("src/main/java/StripCloth.java"));
        String code = source.replaceAll("(?s)/\\*.*?\\*/", "").replaceAll("//[^\n]*", "");
        for (String word : RULED_OUT) {
            Matcher m = Pattern.compile(word, Pattern.MULTILINE).matcher(code);
            Check.due("the source has " + word, m.find(), false);
        }
        methodsAreShort(source);
        Check.end();
    }

    /** A method's head is indented by 4 (or 8 inside a class inside), and so is the brace that ends it. */
    private static void methodsAreShort(String source) {
        String[] lines = source.split("\n");
        for (int k = 0; k < lines.length; k++) {
            Matcher head = Pattern.compile("^( {4}| {8})(?=[a-zA-Z])(?!for|if|while|switch)[^=;]*\\(([^)]*)\\) \\{$").matcher(lines[k]);
            if (head.find()) {
                int end = k;
                while (end < lines.length && !lines[end].equals(head.group(1) + "}")) {
                    end++;
                }
                Check.due("length of" + lines[k] + " is at most 60", end - k < 60, true);
                Check.due("parameters of" + lines[k] + " are at most 7", head.group(2).split(",").length <= 7, true);
            }
        }
    }
}
