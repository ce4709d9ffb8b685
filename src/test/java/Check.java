import java.util.ArrayList;
import java.util.List;

/** Counts answers that are not the ones due, and helps to tell texts. */
final class Check {
    static final int BAD = FoldKeeper.BAD;
    static final int STATE = FoldKeeper.STATE;
    static final int FULL = FoldKeeper.FULL;
    static final int NONE = FoldKeeper.NONE;

    private static int asked = 0;
    private static String within = "";
    private static final List<String> WRONG = new ArrayList<>();

    private Check() {
    }

    static void due(String call, int got, int want) {
        asked++;
        if (got != want) {
            wrong(call + " answered " + got + ", due is " + want);
        }
    }

    static void dueTold(String what, String got, String want) {
        asked++;
        if (!got.equals(want)) {
            wrong(what + ": " + got + ", due: " + want);
        }
    }

    private static void wrong(String what) {
        WRONG.add(within.isEmpty() ? what : "[" + within + "] " + what);
    }

    /** Names what the next answers belong to. */
    static void within(String what) {
        within = what;
    }

    static int asked() {
        return asked;
    }

    static void holds(String what, boolean is) {
        due(what, is ? 1 : 0, 1);
    }

    static void type(FoldKeeper x, String bytes) {
        for (int i = 0; i < bytes.length(); i++) {
            x.feed(bytes.charAt(i));
        }
    }

    static int tell(FoldKeeper x, String text) {
        x.end(0);
        type(x, text);
        return x.text();
    }

    /** A new object that holds these signs, with no edit to be undone. */
    static FoldKeeper holding(String signs, int... marks) {
        FoldKeeper x = new FoldKeeper();
        StringBuilder text = new StringBuilder("row \"" + signs + "\";");
        for (int i : marks) {
            text.append("mark ").append(i).append(';');
        }
        due("text of " + signs, tell(x, text.toString()), signs.length());
        return x;
    }

    /** The signs of an object; one with a mark has a * behind it. */
    static String signsOf(FoldKeeper x) {
        StringBuilder signs = new StringBuilder();
        int n = x.rule(0);
        for (int i = 0; i < n; i++) {
            signs.append((char) x.sign(i, 0));
            if (x.sign(i, 6) == 1) {
                signs.append('*');
            }
        }
        return signs.toString();
    }

    static void dueSigns(String after, FoldKeeper x, String want) {
        dueTold("the signs after " + after, signsOf(x), want);
    }

    static void close() {
        for (int i = 0; i < WRONG.size() && i < 40; i++) {
            System.out.println(WRONG.get(i));
        }
        System.out.println(asked - WRONG.size() + " answers as due, " + WRONG.size() + " not");
        if (!WRONG.isEmpty() || asked == 0) {
            System.exit(1);
        }
    }
}
