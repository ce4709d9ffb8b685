import java.io.IOException;
import java.nio.file.Files;
import java.nio.file.Path;
import java.util.BitSet;

/**
 * The document's words, and which of them a test has been held against. Part 0 is what binds all calls
 * (how many there are, and the terms), part n is promise n.
 */
final class Document {
    static final int PROMISES = 31;

    private static final String ALL = read();
    private static final String[] PARTS = new String[PROMISES + 1];
    private static final BitSet[] TESTED = new BitSet[PROMISES + 1];

    static {
        PARTS[0] = plain(between("An object is used", "## The public face") + between("## Terms", "## Promise 1:")
            .replaceAll("(?m)^## Terms|^Ahead of the calls.*|^```.*|^=+ [12]", ""));
        for (int n = 1; n <= PROMISES; n++) {
            String behind = n < PROMISES ? "## Promise " + (n + 1) + ":" : "## Not promised";
            String part = between("## Promise " + n + ":", behind);
            PARTS[n] = plain(part.substring(part.indexOf("`: ") + 3));
        }
        for (int n = 0; n <= PROMISES; n++) {
            TESTED[n] = new BitSet();
        }
    }

    private Document() {
    }

    private static String read() {
        try {
            return Files.readString(Path.of("../shared/DOC.md"));
        } catch (IOException e) {
            throw new IllegalStateException("the document is not where it is due", e);
        }
    }

    private static String between(String first, String behind) {
        int from = ALL.indexOf(first);
        int till = ALL.indexOf(behind, from);
        if (from < 0 || till < 0) {
            throw new IllegalStateException("the document has no part from " + first + " to " + behind);
        }
        return ALL.substring(from, till);
    }

    private static String plain(String words) {
        return words.replaceAll("\\s+", " ").trim();
    }

    /** Runs the test that these words of the document have of their own. */
    static void says(int part, String words, Runnable test) {
        int from = placeOf(part, words);
        Check.within(part == 0 ? "terms: " + words : "promise " + part + ": " + words);
        Check.holds("the words stand in the document", from >= 0);
        if (from >= 0) {
            TESTED[part].set(from, from + words.length());
        }
        int ahead = Check.asked();
        try {
            test.run();
        } catch (IllegalStateException e) {
            Check.holds(e.getMessage() + (e.getCause() == null ? "" : ": " + e.getCause()), false);
        }
        Check.holds("the test asks", Check.asked() > ahead);
        Check.within("");
    }

    /** Words that stand there more than once are those that no test has been held against as yet. */
    private static int placeOf(int part, String words) {
        int first = PARTS[part].indexOf(words);
        int from = first;
        while (from >= 0 && TESTED[part].get(from)) {
            from = PARTS[part].indexOf(words, from + 1);
        }
        return from >= 0 ? from : first;
    }

    static void dueThatAllIsTested() {
        for (int n = 0; n <= PROMISES; n++) {
            StringBuilder left = new StringBuilder();
            for (int i = 0; i < PARTS[n].length(); i++) {
                char c = PARTS[n].charAt(i);
                boolean open = !TESTED[n].get(i) && Character.isLetterOrDigit(c);
                left.append(open ? c : ' ');
            }
            Check.dueTold("words without a test in part " + n, plain(left.toString()), "");
        }
    }
}
