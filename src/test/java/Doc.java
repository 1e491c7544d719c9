import java.io.IOException;
import java.io.UncheckedIOException;
import java.nio.file.Files;
import java.nio.file.Path;
import java.util.Arrays;
import java.util.regex.Matcher;
import java.util.regex.Pattern;

/**
 * The document itself, as text. Each edge test quotes the sentence that it checks; a quote that
 * the document does not have fails, and so does a word of it that no test has quoted.
 */
final class Doc {
    static final int TERMS = 0;
    private static final int PROMISES = 24;
    private static final Path FILE = Path.of("../shared/DOC.md");
    private static final Pattern SIGNATURE = Pattern.compile("^`[^`]*`:");
    private static final Pattern WORD = Pattern.compile("\\w+");

    private static final String[] TEXT = read();
    private static final boolean[][] QUOTED = new boolean[TEXT.length][];

    static {
        for (int i = 0; i < TEXT.length; i++) {
            QUOTED[i] = new boolean[TEXT[i].length()];
        }
    }

    private Doc() {
    }

    /** The terms are section 0, and each promise is the section of its number. */
    private static String[] read() {
        if (!Files.exists(FILE)) {
            System.out.println("no " + FILE + " here: quotes are not compared with it");
            return new String[0];
        }
        String all;
        try {
            all = Files.readString(FILE);
        } catch (IOException e) {
            throw new UncheckedIOException(e);
        }
        String[] sections = new String[PROMISES + 1];
        String terms = section(all, "## Terms").replaceAll("(?m)^Ahead of the calls .*$", "");
        sections[TERMS] = joined(terms.replaceAll("```(text)?", " ").replaceAll("=+ \\d", " "));
        for (int promise = 1; promise <= PROMISES; promise++) {
            String text = joined(section(all, "## Promise " + promise + ":"));
            sections[promise] = SIGNATURE.matcher(text).replaceFirst("").strip();
        }
        return sections;
    }

    /** What stands behind a heading's line, up to the next heading. */
    private static String section(String all, String heading) {
        int begin = all.indexOf('\n', all.indexOf("\n" + heading) + 1);
        int end = all.indexOf("\n## ", begin);
        return end < 0 ? all.substring(begin) : all.substring(begin, end);
    }

    private static String joined(String text) {
        return text.replaceAll("\\s+", " ").strip();
    }

    /** To be called ahead of the checks of this sentence of a promise, or of TERMS. */
    static void says(int section, String sentence) {
        if (section >= TEXT.length) {
            return;
        }
        int begin = TEXT[section].indexOf(sentence);
        Check.due("the document says under " + section + ": " + sentence, begin >= 0);
        if (begin >= 0) {
            Arrays.fill(QUOTED[section], begin, begin + sentence.length(), true);
        }
    }

    /** To be called behind all edge tests; of words in a row that none has quoted the first is told. */
    static void allIsQuoted() {
        for (int section = 0; section < TEXT.length; section++) {
            Matcher word = WORD.matcher(TEXT[section]);
            boolean quotedBefore = true;
            while (word.find()) {
                boolean quoted = QUOTED[section][word.start()];
                if (quoted || quotedBefore) {
                    Check.due("a test quotes under " + section + ": " + TEXT[section].substring(word.start()), quoted);
                }
                quotedBefore = quoted;
            }
        }
    }
}
