import java.io.IOException;
import java.nio.file.Files;
import java.nio.file.Path;
import java.util.regex.Matcher;
import java.util.regex.Pattern;

/** What of ../shared/LANGUAGE.md can be seen by reading the source. It runs in the project's root. */
public final class LanguageTest {
    private static final String SOURCE = "src/main/java/AntLease.java";
    private static final String[] NEVER = {
        "\\bthrow", "\\btry\\b", "\\bcatch\\b", "\\bsynchronized\\b", "\\bassert\\b", "\\bimport\\b", "\\bpackage\\b",
        "->", "::", "Exact\\s*\\(", "\\bprotected\\b", "\\bhashCode\\b", "\\btoString\\b", "\\bdouble\\b", "\\bfloat\\b",
        "\\bwhile\\s*\\(\\s*true", "\\bfor\\s*\\(\\s*;\\s*;", "\\bThread\\b", "\\bRandom\\b", "\\bstatic\\s*\\{",
        "\\bSystem\\.(?!arraycopy)", "[^\\x00-\\x7f]"
    };
    private static final int LONGEST_METHOD = 60;

    public static void main(String[] args) throws IOException {
        String source = Files.readString(Path.of(SOURCE));
        String code = source.replaceAll("(?s)/\\*.*?\\*/", "").replaceAll("//[^\n]*", "");
        int wrong = 0;
        for (String never : NEVER) {
            Matcher found = Pattern.compile(never).matcher(code);
            if (found.find()) {
                System.out.println("not in the language: " + found.group());
                wrong++;
            }
        }
        wrong += longMethods(source);
        if (wrong != 0) {
            System.exit(1);
        }
    }

    /** A method begins with a line that ends in ") {" and ends with a brace at the same depth. */
    private static int longMethods(String source) {
        String[] lines = source.split("\n");
        Pattern head = Pattern.compile("( {4}| {8})(public|private|static|int|long|boolean|void)\\b.*\\) \\{");
        int count = 0;
        for (int i = 0; i < lines.length; i++) {
            Matcher matcher = head.matcher(lines[i]);
            if (matcher.matches()) {
                int end = i;
                while (end < lines.length && !lines[end].equals(matcher.group(1) + "}")) {
                    end++;
                }
                if (end - i > LONGEST_METHOD) {
                    System.out.println("too long: " + lines[i].trim());
                    count++;
                }
            }
        }
        return count;
    }
}
