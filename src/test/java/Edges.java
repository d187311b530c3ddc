import java.io.IOException;
import java.nio.file.Files;
import java.nio.file.Path;
import java.util.regex.Matcher;
import java.util.regex.Pattern;

/**
 * Runs one test for each sentence of the document that names an edge. The sentence must stand in the document, and
 * no words of the document that speak of an edge may be left without a test.
 */
final class Edges {
    static final int HEAD = 0;
    private static final Path DOC = Path.of("../shared/DOC.md");
    private static final Pattern EDGE_WORDS = Pattern.compile(
        "\\d+ \\.\\. \\d+|never|at most|or more|less than|more than|at first|wrapping|refused|forgotten|\\bgone\\b"
        + "|at least|\\b(?:UNKNOWN|BAD|LATE|FULL|NONE)\\b|is none|are none|what is left|behind 3|\\bjust\\b|\\bempty\\b"
        + "|\\bstays?\\b|\\bno \\w+");

    private final Due due;
    private final String document;
    private final boolean[] tested;

    Edges(Due due) throws IOException {
        this.due = due;
        // Where the document is not at hand, the tests still run.
        document = Files.exists(DOC) ? Files.readString(DOC).replaceAll("\\s+", " ") : "";
        tested = new boolean[document.length()];
    }

    /** promise: its number, or HEAD for what stands ahead of the promises. */
    void of(int promise, String sentence, Runnable test) {
        due.about((promise == HEAD ? "terms" : "promise " + promise) + ": " + sentence);
        mark(promise, sentence);
        int before = due.asked();
        test.run();
        due.holds("it asks something", due.asked() > before);
    }

    private void mark(int promise, String sentence) {
        int from = promise == HEAD ? 0 : document.indexOf("## Promise " + promise + ":");
        int to = document.indexOf(promise == HEAD ? "## Promise 1:" : "## ", from + 3);
        int at = document.indexOf(sentence, Math.max(from, 0));
        due.holds("the document says it there", document.isEmpty() || at >= 0 && at + sentence.length() <= to);
        for (int i = Math.max(at, 0); i < at + sentence.length() && i < tested.length; i++) {
            tested[i] = true;
        }
    }

    /** Prints the words that speak of an edge and are in no sentence that was tested. */
    void nothingIsLeft() {
        due.about("edges without a test");
        int end = document.indexOf("## Not promised");
        Matcher words = EDGE_WORDS.matcher(document);
        int at = Math.max(document.indexOf("## Terms"), 0);
        while (words.find(at) && words.end() <= end) {
            String around = document.substring(Math.max(0, words.start() - 40), Math.min(end, words.end() + 40));
            due.holds(around, tested[words.start()] && tested[words.end() - 1]);
            at = words.end();
        }
    }
}
