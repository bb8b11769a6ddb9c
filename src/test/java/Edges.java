import java.io.IOException;
import java.nio.file.Files;
import java.nio.file.Path;
import java.util.Arrays;
import java.util.Map;
import java.util.TreeMap;

/**
 * Where the edges are counted. Each edge quotes the sentence that names it, so that a sentence of
 * the document without a test, or a test whose sentence is gone, is told as well.
 */
final class Edges {
    /** The section of a sentence that stands in no promise: 'Terms' and its parts 1 to 4. */
    static final int TERMS = 0;
    private static final int PROMISES = 35;
    private static final Path DOCUMENT = Path.of("../shared/DOC.md");

    private final Map<Integer, String> sections = new TreeMap<>();
    private final Map<Integer, boolean[]> quoted = new TreeMap<>();
    private String sentence = "";
    private int asked = 0;
    private int quotes = 0;
    private int wrong = 0;

    Edges() throws IOException {
        int section = -1;
        for (String line : Files.readAllLines(DOCUMENT)) {
            if (line.startsWith("## ")) section = sectionOf(line);
            else if (section >= 0 && !isFrame(line)) add(section, line);
        }
        sections.replaceAll((number, text) -> plain(text));
        sections.forEach((number, text) -> quoted.put(number, new boolean[text.length()]));
        if (sections.size() != PROMISES + 1) fail("the document has " + sections.size() + " sections");
    }

    private static int sectionOf(String heading) {
        if (heading.equals("## Terms")) return TERMS;
        if (heading.startsWith("## Promise ")) return Integer.parseInt(heading.replaceAll("\\D*(\\d+):.*", "$1"));
        return -1;
    }

    private static boolean isFrame(String line) {
        return line.startsWith("```") || line.startsWith("Ahead of the calls ");
    }

    private void add(int section, String line) {
        sections.merge(section, line, (before, more) -> before + " " + more);
    }

    private static String plain(String text) {
        return text.replaceAll("`[^`]*`:?", " ").replaceAll("======== \\d", " ").replaceAll("\\s+", " ").trim();
    }

    /** From here on it is this sentence, of this promise, that is tested. */
    void of(int section, String quote) {
        sentence = section + ": " + quote;
        quotes++;
        String text = sections.get(section);
        int at = text.indexOf(quote);
        if (at < 0) fail("the document does not say so: " + sentence);
        else Arrays.fill(quoted.get(section), at, at + quote.length(), true);
    }

    /** From here on it is a sentence that stands ahead of 'Terms'. */
    void ofTheWhole(String quote) {
        sentence = quote;
        quotes++;
    }

    void due(String call, long got, long want) {
        asked++;
        if (got != want) fail(call + " answered " + got + ", due is " + want + " (" + sentence + ")");
    }

    private void fail(String what) {
        wrong++;
        System.out.println(what);
    }

    Run fresh() {
        return new Run(this);
    }

    Run housed(String text) {
        return new Run(this).reads(text);
    }

    private void tellWhatIsNotQuoted(int section, String text) {
        StringBuilder rest = new StringBuilder();
        for (int i = 0; i < text.length(); i++) {
            rest.append(quoted.get(section)[i] ? '|' : text.charAt(i));
        }
        for (String piece : rest.toString().split("\\|+")) {
            if (!piece.isBlank()) fail("no edge quotes, in section " + section + ": " + piece);
        }
    }

    void end() {
        sections.forEach(this::tellWhatIsNotQuoted);
        System.out.println(quotes + " sentences, " + asked + " asked, " + wrong + " not as due");
        if (wrong != 0) System.exit(1);
    }
}
