import java.io.IOException;
import java.io.UncheckedIOException;
import java.nio.file.Files;
import java.nio.file.Path;
import java.util.Map;
import java.util.TreeMap;
import java.util.regex.Matcher;
import java.util.regex.Pattern;

/** The document's sentences: a test names the one it stands for, and none that tells a boundary is left without. */
final class Document {
    static final int PROMISES = 38;

    private static final Path PATH = Path.of("../shared/DOC.md");
    private static final String TERMS = "Terms";
    private static final Pattern BOUNDARY = Pattern.compile(
        "\\b(BAD|FULL|STATE|BARRED|FINDINGS?|NONE|NOTHING|BEYOND|UNLIKE|NOUGHT|SIZE|Refused|refused)\\b|\\.\\."
        + "|\\bat (most|least|first)\\b|\\b(No|no|none|not|nothing|neither|missing|first|latest|least|cut|over|begun)\\b"
        + "|\\b(more|less|above|below|before|beyond|always|also|too|only|by then|from then on|ahead|another|same)\\b");
    private static final Map<String, String> TEXTS = read();
    private static final Map<String, boolean[]> SAID = new TreeMap<>();

    private Document() { }

    private static Map<String, String> read() {
        Map<String, String> texts = new TreeMap<>();
        try {
            for (String part : Files.readString(PATH).split("\n## ")) {
                int end = part.indexOf('\n');
                String heading = part.substring(0, end).replaceAll(":.*", "");
                texts.put(heading, part.substring(end).replaceAll("\\s+", " "));
            }
        } catch (IOException e) {
            throw new UncheckedIOException(e);
        }
        return texts;
    }

    static void terms(String sentence) {
        says(TERMS, sentence);
    }

    static void promise(int number, String sentence) {
        says("Promise " + number, sentence);
    }

    private static void says(String part, String sentence) {
        String text = TEXTS.getOrDefault(part, "");
        int at = text.indexOf(sentence);
        Check.holds("the document says in " + part + ": " + sentence, at >= 0);
        boolean[] said = SAID.computeIfAbsent(part, p -> new boolean[text.length()]);
        for (int i = at; at >= 0 && i < at + sentence.length(); i++) {
            said[i] = true;
        }
    }

    /** Every place of the Terms and the promises that tells a boundary has been named by a test. */
    static void everyBoundaryIsSaid() {
        allSaidIn(TERMS);
        for (int p = 1; p <= PROMISES; p++) {
            Check.holds("promise " + p + " is in the document", TEXTS.containsKey("Promise " + p));
            Check.holds("promise " + p + " has a test", SAID.containsKey("Promise " + p));
            allSaidIn("Promise " + p);
        }
        Check.holds("there is no promise more", !TEXTS.containsKey("Promise " + (PROMISES + 1)));
    }

    private static void allSaidIn(String part) {
        String text = TEXTS.getOrDefault(part, "");
        boolean[] said = SAID.getOrDefault(part, new boolean[text.length()]);
        for (Matcher m = BOUNDARY.matcher(text); m.find();) {
            String around = text.substring(Math.max(0, m.start() - 30), Math.min(text.length(), m.end() + 30));
            Check.holds(part + " has a test for '" + m.group() + "' in '.. " + around + " ..'", said[m.start()]);
        }
    }
}
