import java.util.ArrayList;
import java.util.List;

/** Counts answers that are not the ones due, and helps to tell texts. */
final class Check {
    static final int BAD = FoldKeeper.BAD;
    static final int STATE = FoldKeeper.STATE;
    static final int FULL = FoldKeeper.FULL;
    static final int NONE = FoldKeeper.NONE;

    private static int asked = 0;
    private static final List<String> WRONG = new ArrayList<>();

    private Check() {
    }

    static void due(String call, int got, int want) {
        asked++;
        if (got != want) {
            WRONG.add(call + " answered " + got + ", due is " + want);
        }
    }

    static void holds(String what, boolean is) {
        due(what, is ? 1 : 0, 1);
    }

    static void type(FoldKeeper x, String bytes) {
        for (int i = 0; i < bytes.length(); i++) {
            x.feed(bytes.charAt(i));
        }
    }

    static int tell(FoldKeeper x, String text) {
        x.end(0);
        type(x, text);
        return x.text();
    }

    /** A new object that holds these signs, with no edit to be undone. */
    static FoldKeeper holding(String signs, int... marks) {
        FoldKeeper x = new FoldKeeper();
        StringBuilder text = new StringBuilder("row \"" + signs + "\";");
        for (int i : marks) {
            text.append("mark ").append(i).append(';');
        }
        due("text of " + signs, tell(x, text.toString()), signs.length());
        return x;
    }

    /** The signs of an object; one with a mark has a * behind it. */
    static String signsOf(FoldKeeper x) {
        StringBuilder signs = new StringBuilder();
        for (int i = 0; i < x.rule(0); i++) {
            signs.append((char) x.sign(i, 0));
            if (x.sign(i, 6) == 1) {
                signs.append('*');
            }
        }
        return signs.toString();
    }

    static void dueSigns(String after, FoldKeeper x, String want) {
        asked++;
        String got = signsOf(x);
        if (!got.equals(want)) {
            WRONG.add("after " + after + " the signs are " + got + ", due are " + want);
        }
    }

    static void close() {
        for (int i = 0; i < WRONG.size() && i < 40; i++) {
            System.out.println(WRONG.get(i));
        }
        System.out.println(asked - WRONG.size() + " answers as due, " + WRONG.size() + " not");
        if (!WRONG.isEmpty() || asked == 0) {
            System.exit(1);
        }
    }
}
