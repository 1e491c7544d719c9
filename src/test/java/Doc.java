import java.io.IOException;
import java.io.UncheckedIOException;
import java.nio.file.Files;
import java.nio.file.Path;
import java.util.Arrays;
import java.util.regex.Matcher;
import java.util.regex.Pattern;

/**
 * The document itself, as text. Each edge test quotes the sentence that it checks; a quote that
 * the document does not have fails, and so does a word of it that no test has quoted.
 */
final class Doc {
    static final int TERMS = 0;
    private static final int PROMISES = 24;
    static final int WHAT_IT_IS = PROMISES + 1;
    private static final Path FILE = Path.of("../shared/DOC.md");
    private static final Pattern SIGNATURE = Pattern.compile("^`[^`]*`:");
    private static final Pattern WORD = Pattern.compile("\\w+");

    private static final String ALL = file();
    private static final String[] TEXT = sections();
    private static final boolean[][] QUOTED = new boolean[TEXT.length][];

    static {
        for (int i = 0; i < TEXT.length; i++) {
            QUOTED[i] = new boolean[TEXT[i].length()];
        }
    }

    private Doc() {
    }

    private static String file() {
        if (!Files.exists(FILE)) {
            System.out.println("no " + FILE + " here: nothing is compared with it");
            return "";
        }
        try {
            return Files.readString(FILE);
        } catch (IOException e) {
            throw new UncheckedIOException(e);
        }
    }

    /** The terms are section 0, each promise is the section of its number, what it is the last. */
    private static String[] sections() {
        if (!isHere()) {
            return new String[0];
        }
        String[] sections = new String[WHAT_IT_IS + 1];
        String terms = section("## Terms").replaceAll("(?m)^Ahead of the calls .*$", "");
        sections[TERMS] = joined(terms.replaceAll("```(text)?", " ").replaceAll("=+ \\d", " "));
        for (int promise = 1; promise <= PROMISES; promise++) {
            String text = joined(section("## Promise " + promise + ":"));
            sections[promise] = SIGNATURE.matcher(text).replaceFirst("").strip();
        }
        sections[WHAT_IT_IS] = joined(section("## What it is"));
        return sections;
    }

    static boolean isHere() {
        return !ALL.isEmpty();
    }

    /** The public face as it is printed. */
    static String face() {
        return section("## The public face");
    }

    /** Of the groups of calls: the names of the calls, then what stands ahead of them. */
    static Matcher groups() {
        return Pattern.compile("(?m)^Ahead of the calls (.*) the interface says: (.*)\\.$").matcher(section("## Terms"));
    }

    /** What stands behind a heading's line, up to the next heading. */
    private static String section(String heading) {
        int begin = ALL.indexOf('\n', ALL.indexOf("\n" + heading) + 1);
        int end = ALL.indexOf("\n## ", begin);
        return end < 0 ? ALL.substring(begin) : ALL.substring(begin, end);
    }

    private static String joined(String text) {
        return text.replaceAll("\\s+", " ").strip();
    }

    /** To be called ahead of the checks of this sentence of a promise, of TERMS or WHAT_IT_IS. */
    static void says(int section, String sentence) {
        if (!isHere()) {
            return;
        }
        int begin = TEXT[section].indexOf(sentence);
        Check.due("the document says under " + section + ": " + sentence, begin >= 0);
        if (begin >= 0) {
            Arrays.fill(QUOTED[section], begin, begin + sentence.length(), true);
        }
    }

    /** To be called behind all edge tests; of words in a row that none has quoted the first is told. */
    static void allIsQuoted() {
        for (int section = 0; section < TEXT.length; section++) {
            Matcher word = WORD.matcher(TEXT[section]);
            boolean quotedBefore = true;
            while (word.find()) {
                boolean quoted = QUOTED[section][word.start()];
                if (quoted || quotedBefore) {
                    Check.due("a test quotes under " + section + ": " + TEXT[section].substring(word.start()), quoted);
                }
                quotedBefore = quoted;
            }
        }
    }
}
