/** Promises 7 to 14: what follows from the signs. */
public final class BracketTest {
    public static void main(String[] args) {
        rules();
        partners();
        clashOfTheFirst();
        folds();
        wrongAsks();
        low();
        around();
        whole();
        bare();
        longest();
        seen();
        Check.close();
    }

    private static void dueEach(String call, int[] got, int... want) {
        Check.due(call + ": how many", got.length, want.length);
        for (int i = 0; i < got.length && i < want.length; i++) {
            Check.due(call + " of " + i, got[i], want[i]);
        }
    }

    private static int[] each(FoldKeeper x, int what) {
        int[] answers = new int[x.rule(0)];
        for (int i = 0; i < answers.length; i++) {
            answers[i] = x.sign(i, what);
        }
        return answers;
    }

    private static void rules() {
        FoldKeeper x = Check.holding("(a[/]}{(/)/", 0, 7);
        int[] want = {11, 4, 3, 1, 1, 2, 5, 2, 0, 0, 2};
        for (int what = 0; what < want.length; what++) {
            Check.due("rule(" + what + ")", x.rule(what), want[what]);
        }
        Check.due("rule(-1)", x.rule(-1), Check.BAD);
        Check.due("rule(11)", x.rule(11), Check.BAD);
        Check.due("rule(max)", x.rule(Integer.MAX_VALUE), Check.BAD);
        Check.due("rule(10) of nested", Check.holding("([{a}])").rule(10), 3);
        Check.due("rule(10) of bare ones", Check.holding("(((").rule(10), 0);
        Check.due("rule(1) of / alone", Check.holding("//").rule(1), 3);
        x.insert(0, 'a');
        x.insert(0, 'a');
        x.insert(0, 'a');
        x.undo();
        Check.due("rule(8)", x.rule(8), 2);
        Check.due("rule(9)", x.rule(9), 1);
    }

    private static void partners() {
        FoldKeeper x = Check.holding(")([)]/{a");
        int none = Check.NONE;
        dueEach("byte", each(x, 0), ')', '(', '[', ')', ']', '/', '{', 'a');
        dueEach("depth", each(x, 1), 0, -1, 0, 1, 0, -1, -1, 0);
        dueEach("level", each(x, 2), 0, 0, 1, 1, 0, 0, 0, 0);
        dueEach("partner", each(x, 3), none, 4, 3, 2, 1, none, none, none);
        dueEach("partner alone", each(x, 4), none, 3, 4, 1, 2, none, none, none);
        dueEach("clash", each(x, 5), 0, 1, 1, 1, 1, 0, 0, 0);
        dueEach("line", each(x, 8), 0, 0, 0, 0, 0, 0, 1, 1);
        Check.due("rule(3)", x.rule(3), 2);
        Check.due("rule(4)", x.rule(4), 2);

        FoldKeeper alone = Check.holding("((]{))}");
        dueEach("partner", each(alone, 3), 5, 2, 1, 4, 3, 0, none);
        dueEach("partner alone", each(alone, 4), 5, 4, none, 6, 1, 0, 3);
        dueEach("clash", each(alone, 5), 0, 1, 1, 1, 1, 0, 0);
    }

    private static void clashOfTheFirst() {
        dueEach("clash", each(Check.holding("(]()"), 5), 1, 1, 0, 0);
        Check.due("rule(4)", Check.holding("(]()").rule(4), 1);
    }

    private static void folds() {
        FoldKeeper x = Check.holding("([a]{/}b)c", 0, 1);
        dueEach("mark", each(x, 6), 1, 1, 0, 0, 0, 0, 0, 0, 0, 0);
        dueEach("hidden", each(x, 7), 0, 1, 1, 1, 1, 1, 1, 1, 0, 0);
        Check.due("folded: no / within [a]", x.rule(5), 1);
        Check.due("hidden", x.rule(6), 7);
        x.mark(0, 0);
        Check.due("no fold", x.rule(5), 0);
        Check.due("no mark of that", x.rule(7), 1);
        x.mark(4, 1);
        dueEach("hidden", each(x, 7), 0, 0, 0, 0, 0, 1, 0, 0, 0, 0);

        FoldKeeper bare = Check.holding("(/a", 0);
        Check.due("a bare one folds nothing", bare.rule(5), 0);
        Check.due("a bare one hides nothing", bare.rule(6), 0);
        FoldKeeper clash = Check.holding("(/]", 0);
        Check.due("a pair that clashes folds", clash.rule(5), 1);
        FoldKeeper beside = Check.holding("/()/", 1);
        Check.due("a / beside is none between", beside.rule(5), 0);
        FoldKeeper within = Check.holding("((/)(/))", 1, 4);
        dueEach("hidden", each(within, 7), 0, 0, 1, 0, 0, 1, 0, 0);
        Check.due("two folds", within.rule(5), 2);
        within.mark(0, 1);
        Check.due("three folds, two of them hidden", within.rule(5), 3);
        Check.due("hidden once each", within.rule(6), 6);
    }

    private static void wrongAsks() {
        FoldKeeper x = Check.holding("(a)");
        int[] wrong = {-1, 3, Integer.MAX_VALUE, Integer.MIN_VALUE};
        for (int i : wrong) {
            Check.due("sign(" + i + ", 0)", x.sign(i, 0), Check.BAD);
            Check.due("around(" + i + ", 3)", x.around(i, 3), Check.BAD);
        }
        int[] places = {-1, 4, Integer.MAX_VALUE, Integer.MIN_VALUE};
        for (int i : places) {
            Check.due("low(" + i + ", 3)", x.low(i, 3), Check.BAD);
            Check.due("low(0, " + i + ")", x.low(0, i), Check.BAD);
            Check.due("whole(" + i + ")", x.whole(i), Check.BAD);
            Check.due("bare(" + i + ", 0)", x.bare(i, 0), Check.BAD);
            Check.due("bare(" + i + ", 1)", x.bare(i, 1), Check.BAD);
        }
        Check.due("sign(0, -1)", x.sign(0, -1), Check.BAD);
        Check.due("sign(0, 9)", x.sign(0, 9), Check.BAD);
        Check.due("around(0, -1)", x.around(0, -1), Check.BAD);
        Check.due("around(0, 4)", x.around(0, 4), Check.BAD);
        Check.due("bare(0, -1)", x.bare(0, -1), Check.BAD);
        Check.due("bare(0, 2)", x.bare(0, 2), Check.BAD);
        Check.due("longest(-1)", x.longest(-1), Check.BAD);
        Check.due("longest(2)", x.longest(2), Check.BAD);
        Check.due("seen(-1)", x.seen(-1), Check.BAD);
        Check.due("seen(min)", x.seen(Integer.MIN_VALUE), Check.BAD);
        Check.due("seen(max)", x.seen(Integer.MAX_VALUE), Check.NONE);
    }

    private static void low() {
        FoldKeeper x = Check.holding("((a))]][b");
        Check.due("low(2, 1)", x.low(2, 1), Check.BAD);
        Check.due("low(0, 0)", x.low(0, 0), 0);
        Check.due("low(2, 2)", x.low(2, 2), 2);
        Check.due("low(2, 4)", x.low(2, 4), 1);
        Check.due("low(1, 5)", x.low(1, 5), 0);
        Check.due("low(0, 9)", x.low(0, 9), -2);
        Check.due("low(8, 9)", x.low(8, 9), -1);
        Check.due("low(9, 9)", x.low(9, 9), -1);
    }

    private static void around() {
        FoldKeeper x = Check.holding("([a{(b)}])c(d");
        Check.due("around(0, 3)", x.around(0, 3), Check.NONE);
        Check.due("around(1, 3)", x.around(1, 3), 0);
        Check.due("around(8, 3)", x.around(8, 3), 0);
        Check.due("around(9, 3)", x.around(9, 3), Check.NONE);
        Check.due("around(5, 3)", x.around(5, 3), 4);
        Check.due("around(5, 0)", x.around(5, 0), 4);
        Check.due("around(4, 0)", x.around(4, 0), 0);
        Check.due("around(6, 0)", x.around(6, 0), 0);
        Check.due("around(5, 1)", x.around(5, 1), 1);
        Check.due("around(5, 2)", x.around(5, 2), 3);
        Check.due("around(7, 2)", x.around(7, 2), Check.NONE);
        Check.due("around(10, 3)", x.around(10, 3), Check.NONE);
        Check.due("around(12, 3), behind a bare one", x.around(12, 3), Check.NONE);
        Check.due("around(12, 0), behind a bare one", x.around(12, 0), Check.NONE);
        FoldKeeper crossed = Check.holding("([a)b]");
        Check.due("around(2, 0)", crossed.around(2, 0), 0);
        Check.due("around(4, 0)", crossed.around(4, 0), Check.NONE);
        Check.due("around(4, 1)", crossed.around(4, 1), 1);
        Check.due("around(3, 1)", crossed.around(3, 1), 1);
        Check.due("around(4, 3)", crossed.around(4, 3), 0);
    }

    private static void whole() {
        FoldKeeper x = Check.holding("a()(b))c(d");
        int[] want = {6, 6, 2, 6, 5, 5, 6, 8, 8, 10, 10};
        for (int i = 0; i < want.length; i++) {
            Check.due("whole(" + i + ")", x.whole(i), want[i]);
        }
        Check.due("whole(0), a pair that clashes", Check.holding("(]").whole(0), 2);
        Check.due("whole(0), letters alone", Check.holding("a/b").whole(0), 3);
        Check.due("whole(0), crossed kinds", Check.holding("([)]").whole(1), 3);
    }

    private static void bare() {
        FoldKeeper x = Check.holding(")a()(");
        Check.due("bare(0, 0)", x.bare(0, 0), 0);
        Check.due("bare(1, 0)", x.bare(1, 0), 4);
        Check.due("bare(4, 0)", x.bare(4, 0), 4);
        Check.due("bare(5, 0)", x.bare(5, 0), Check.NONE);
        Check.due("bare(0, 1)", x.bare(0, 1), Check.NONE);
        Check.due("bare(1, 1)", x.bare(1, 1), 0);
        Check.due("bare(4, 1)", x.bare(4, 1), 0);
        Check.due("bare(5, 1)", x.bare(5, 1), 4);
        Check.due("bare(0, 0), by kinds alone bare", Check.holding("(]").bare(0, 0), Check.NONE);
    }

    private static void longest() {
        longestOf("", 0, 0);
        longestOf("(", 0, 0);
        longestOf("((", 0, 0);
        longestOf(")a", 1, 1);
        longestOf("()((a)", 3, 3);
        longestOf("()(()", 0, 2);
        longestOf("(]a)b[}", 0, 3);
        longestOf("(]a)b[}c", 4, 4);
        longestOf("ab(cd", 0, 2);
        longestOf("a(b)c", 0, 5);
    }

    private static void longestOf(String signs, int first, int length) {
        FoldKeeper x = Check.holding(signs);
        Check.due("longest(0) of " + signs, x.longest(0), first);
        Check.due("longest(1) of " + signs, x.longest(1), length);
    }

    private static void seen() {
        FoldKeeper x = Check.holding("a(/b)c[/]", 1, 6);
        int[] want = {0, 1, 4, 5, 6, 8, Check.NONE, Check.NONE};
        for (int k = 0; k < want.length; k++) {
            Check.due("seen(" + k + ")", x.seen(k), want[k]);
        }
    }
}
