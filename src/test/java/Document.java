import java.io.IOException;
import java.nio.file.Files;
import java.nio.file.Path;
import java.util.ArrayList;
import java.util.List;
import java.util.Set;
import java.util.TreeSet;
import java.util.regex.Matcher;
import java.util.regex.Pattern;

/** The document, so that a test can quote only what stands there, and no sentence with a boundary is left untested. */
final class Document {
    private static final Path WHERE = Path.of("../shared/DOC.md");
    private static final String TEXT = read();
    private static final String TERMS = part("## Terms", "The constants:");
    private static final Set<String> quotes = new TreeSet<>();

    /** How the pieces of "Terms" begin that name no boundary; all others must be quoted. */
    private static final String[] WITHOUT_BOUNDARY = {
        "Persons, stories, marks, acts, claims, votes, notices and months come by calls",
        "who belongs, what may be heard, rights, holders and sums are asked", "Months are counted",
        "There are the rights PASS, HUNT, BURN, SPEAK and EXCLUDE", "Peoples, stories",
        "A mark is of a people, at a place, in a month, of some weight", "It may be void, or be validated",
        "a claim is of a people, for places and rights", "It is FILED, REGISTERED, DETERMINED or DISMISSED",
        "Its tests are", "A DETERMINED one may be revised", "It WAITS, is DONE, or REFUSED", "A party may agree",
        "it is allowed, or REFUSED",
    };

    private Document() {
    }

    private static String read() {
        try {
            return Files.exists(WHERE) ? Files.readString(WHERE) : "";
        } catch (IOException e) {
            throw new IllegalStateException(e);
        }
    }

    private static String part(String from, String to) {
        int first = TEXT.indexOf(from);
        int last = TEXT.indexOf(to, Math.max(first, 0) + from.length());
        return first < 0 ? "" : TEXT.substring(first, last < 0 ? TEXT.length() : last);
    }

    private static String promise(int number) {
        return part("## Promise " + number + ":", "\n## ");
    }

    static void quoted(int promise, String words) {
        boolean isPromised = promise(promise).contains(words);
        quotes.add((isPromised ? promise + " " : "") + words);
        boolean isThere = isPromised || TERMS.contains(words) || part("## What it is", "\n## ").contains(words);
        Due.due("promise " + promise + ": \"" + words + "\" in the document", true, isThere || TEXT.isEmpty());
    }

    /** To be called behind the tests. */
    static void isQuotedWhole() {
        for (int number = 1; number <= 38; number++) {
            for (String sentence : boundaries(promise(number))) {
                Due.due("promise " + number + ": a test of \"" + sentence + "\"", true,
                        quotes.contains(number + " " + sentence));
            }
        }
        for (String piece : TERMS.split("(?<=[.;:])\\s+|\\n+")) {
            Due.due("Terms: a test of \"" + piece + "\"", true, isTested(piece));
        }
    }

    /** What arguments there are, what is thrown, and answers that are told for want of something. */
    private static List<String> boundaries(String promise) {
        List<String> found = new ArrayList<>();
        Pattern kinds = Pattern.compile("(?m)^- (`\\w+`: (?!whether).*)$|^(Throws .*)$|(@throws .*)$"
                + "|^Returns.*?((?:NONE|0) if [^.,;]*)");
        Matcher matcher = kinds.matcher(promise);
        while (matcher.find()) {
            for (int group = 1; group <= matcher.groupCount(); group++) {
                if (matcher.group(group) != null) {
                    found.add(matcher.group(group));
                }
            }
        }
        return found;
    }

    private static boolean isTested(String piece) {
        if (piece.isBlank() || piece.startsWith("#")) {
            return true;
        }
        for (String start : WITHOUT_BOUNDARY) {
            if (piece.startsWith(start)) {
                return true;
            }
        }
        String bare = piece.replaceAll("[.;:]$", "");
        return quotes.stream().anyMatch(quote -> quote.contains(bare) || bare.contains(quote));
    }
}
