import java.io.IOException;
import java.nio.file.Files;
import java.nio.file.Path;
import java.util.regex.Matcher;
import java.util.regex.Pattern;

/** What LANGUAGE.md leaves out and a search can find; the rest of its rules is for the reader. */
final class LanguageTest {
    private static final Path SOURCE = Path.of("src/main/java/StickWays.java");
    private static final String[] LEFT_OUT = {
        "\\b(throw|throws|try|catch|finally|synchronized|assert|import|package|protected|volatile)\\b",
        "\\b(Object|System\\.(?!arraycopy)\\w+|Thread|Random|Exception|Error|Map|Set|Optional)\\b",
        "\\b(equals|hashCode|toString|getClass)\\s*\\(",
        "\\w+Exact\\b", "->", "::", "@\\w+", "\"\\s*\\+|\\+\\s*\"", "while\\s*\\(true\\)", "for\\s*\\(;;",
        "static\\s*\\{", "[^\\x00-\\x7f]",
    };
    private static final int LONGEST_METHOD = 60;

    public static void main(String[] args) throws IOException {
        String source = Files.readString(SOURCE);
        String code = source.replaceAll("(?s)/\\*.*?\\*/", "").replaceAll("//[^\n]*", "");
        for (String pattern : LEFT_OUT) {
            Matcher found = Pattern.compile(pattern).matcher(code);
            Check.due("the program is without " + pattern, !found.find());
        }
        methodsAreShort(code);
        Check.end();
    }

    /** A method ends with the first line that closes at the depth at which it began. */
    private static void methodsAreShort(String code) {
        Matcher method = Pattern.compile("(?m)^( {4}| {8})(?! )[\\w\\[\\]. ]+\\([\\w\\[\\], ]*\\) \\{$").matcher(code);
        int methods = 0;
        while (method.find()) {
            int end = code.indexOf("\n" + method.group(1) + "}", method.end());
            long lines = code.substring(method.start(), end).lines().count() + 1;
            methods++;
            Check.due(method.group().strip() + " has " + lines + " lines", lines <= LONGEST_METHOD);
        }
        Check.due("methods are found", methods > 40);
    }
}
