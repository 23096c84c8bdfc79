import java.io.IOException;
import java.nio.file.Files;
import java.nio.file.Path;
import java.util.ArrayList;
import java.util.List;
import java.util.Set;
import java.util.TreeSet;

/** The document, so that a test can quote only what stands there, and no sentence of it is left untested. */
final class Document {
    private static final Path WHERE = Path.of("../shared/DOC.md");
    private static final String TEXT = read();
    private static final String TERMS = part("## Terms", "The constants:");
    private static final String HEADING_WITHOUT_SIGN = "Peoples, stories";
    private static final Set<String> quotes = new TreeSet<>();

    private Document() {
    }

    private static String read() {
        try {
            return Files.exists(WHERE) ? Files.readString(WHERE) : "";
        } catch (IOException e) {
            throw new IllegalStateException(e);
        }
    }

    private static String part(String from, String to) {
        int first = TEXT.indexOf(from);
        int last = TEXT.indexOf(to, Math.max(first, 0) + from.length());
        return first < 0 ? "" : TEXT.substring(first, last < 0 ? TEXT.length() : last);
    }

    private static String promise(int number) {
        return part("## Promise " + number + ":", "\n## ");
    }

    static void quoted(int promise, String words) {
        boolean isPromised = promise(promise).contains(words);
        quotes.add((isPromised ? promise + " " : "") + words);
        boolean isThere = isPromised || TERMS.contains(words) || part("## What it is", "\n## ").contains(words);
        Due.due("promise " + promise + ": \"" + words + "\" in the document", true, isThere || TEXT.isEmpty());
    }

    /** To be called behind the tests. */
    static void isQuotedWhole() {
        for (int number = 1; number <= 38; number++) {
            for (String sentence : sentences(promise(number))) {
                Due.due("promise " + number + ": a test of \"" + sentence + "\"", true,
                        isPromiseTested(number, sentence));
            }
        }
        for (String piece : TERMS.split("(?<=[.;:])\\s+|\\n+")) {
            Due.due("Terms: a test of \"" + piece + "\"", true, isTermTested(piece));
        }
    }

    /** What stands below the heading of a promise, but for the call's signature, which FaceTest looks at. */
    private static List<String> sentences(String promise) {
        List<String> found = new ArrayList<>();
        String[] lines = promise.split("\\n+");
        for (int line = 1; line < lines.length; line++) {
            String words = lines[line].replaceFirst("^`[^`]*\\)[^`]*`: ", "").replaceFirst("^- ", "");
            found.addAll(List.of(words.split("(?<=[.]) (?=[A-Z@])")));
        }
        return found;
    }

    private static boolean isPromiseTested(int number, String sentence) {
        for (String clause : sentence.split("; ")) {
            String bare = bare(clause);
            if (quotes.stream().noneMatch(quote -> quote.startsWith(number + " ") && quote.contains(bare))) {
                return false;
            }
        }
        return true;
    }

    private static boolean isTermTested(String piece) {
        if (piece.isBlank() || piece.startsWith("#") || piece.equals(HEADING_WITHOUT_SIGN)) {
            return true;
        }
        String bare = bare(piece);
        return quotes.stream().anyMatch(quote -> quote.contains(bare) || bare.contains(quote));
    }

    private static String bare(String piece) {
        return piece.replaceAll("[.;:]$", "");
    }
}
