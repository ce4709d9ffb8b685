/** Promises 15 to 26: edits, undone and done again, images. */
public final class EditTest {
    private static final int MAX = Integer.MAX_VALUE;
    private static final int MIN = Integer.MIN_VALUE;
    private static final String NO_SIGNS = "!;\"0 A`|~'\u0000\u007f\\^_";

    public static void main(String[] args) {
        put();
        insert();
        drop();
        move();
        copy();
        turn();
        mark();
        grow();
        undoEach();
        undoneFollows();
        undoTwenty();
        redoTillAnother();
        images();
        Check.close();
    }

    /** A refused edit leaves the signs and what can be undone and done again. */
    private static void refused(FoldKeeper x, String call, int got, int want, String signs) {
        Check.due(call, got, want);
        Check.dueSigns(call, x, signs);
        Check.due(call + ": rule(8)", x.rule(8), 1);
        Check.due(call + ": rule(9)", x.rule(9), 1);
    }

    /** An object with one edit to be undone and one to be done again. */
    private static FoldKeeper amid(String signs, int... marks) {
        FoldKeeper x = Check.holding(signs, marks);
        x.put(0, x.sign(0, 0));
        x.put(0, x.sign(0, 0));
        for (int i : marks) {
            if (i == 0) {
                throw new IllegalArgumentException("the first sign is put, so it can have no mark here");
            }
        }
        x.undo();
        return x;
    }

    private static void put() {
        FoldKeeper x = amid("a(b", 1);
        int[] wrong = {-1, 3, MAX, MIN};
        for (int i : wrong) {
            refused(x, "put(" + i + ")", x.put(i, 'c'), Check.BAD, "a(*b");
        }
        for (int i = 0; i < NO_SIGNS.length(); i++) {
            refused(x, "put of " + (int) NO_SIGNS.charAt(i), x.put(0, NO_SIGNS.charAt(i)), Check.BAD, "a(*b");
        }
        refused(x, "put of 40 and 256", x.put(0, 296), Check.BAD, "a(*b");
        refused(x, "put of 40 and 128", x.put(0, 168), Check.BAD, "a(*b");
        refused(x, "put of -1", x.put(0, -1), Check.BAD, "a(*b");
        Check.due("put(1)", x.put(1, '('), '(');
        Check.dueSigns("put of the same", x, "a(b");
        Check.due("rule(8)", x.rule(8), 2);
        Check.due("rule(9)", x.rule(9), 0);
        Check.due("put(2)", x.put(2, ']'), 'b');
        Check.dueSigns("put", x, "a(]");
        Check.due("rule(4)", x.rule(4), 1);
    }

    private static void insert() {
        FoldKeeper x = amid("a(", 1);
        int[] wrong = {-1, 3, MAX, MIN};
        for (int i : wrong) {
            refused(x, "insert(" + i + ")", x.insert(i, 'c'), Check.BAD, "a(*");
        }
        for (int i = 0; i < NO_SIGNS.length(); i++) {
            refused(x, "insert of " + (int) NO_SIGNS.charAt(i), x.insert(0, NO_SIGNS.charAt(i)), Check.BAD, "a(*");
        }
        Check.due("insert(2)", x.insert(2, '/'), 3);
        Check.due("insert(1)", x.insert(1, '{'), 4);
        Check.due("insert(0)", x.insert(0, ')'), 5);
        Check.dueSigns("insert", x, ")a{(*/");

        String sixty = "a".repeat(60);
        FoldKeeper full = amid(sixty);
        refused(full, "insert, full", full.insert(0, 'a'), Check.FULL, sixty);
        refused(full, "insert, full, at the end", full.insert(60, 'a'), Check.FULL, sixty);
        full = amid(sixty);
        refused(full, "insert, full, no place", full.insert(61, 'a'), Check.BAD, sixty);
        refused(full, "insert, full, no sign", full.insert(0, '!'), Check.BAD, sixty);
        Check.due("drop", full.drop(0, 1), 59);
        Check.due("insert, room for one", full.insert(59, 'b'), 60);
    }

    private static void drop() {
        FoldKeeper x = amid("ab(cd", 2);
        int[][] wrong = {{-1, 1}, {5, 1}, {0, 0}, {0, -1}, {0, 6}, {4, 2}, {1, MAX}, {MAX, 1}, {MAX, MAX}, {MIN, 1}, {0, MIN}, {5, 0}};
        for (int[] w : wrong) {
            refused(x, "drop(" + w[0] + ", " + w[1] + ")", x.drop(w[0], w[1]), Check.BAD, "ab(*cd");
        }
        Check.due("drop(1, 1)", x.drop(1, 1), 4);
        Check.dueSigns("drop", x, "a(*cd");
        Check.due("drop(2, 2)", x.drop(2, 2), 2);
        Check.dueSigns("drop", x, "a(*");
        Check.due("drop(0, 2)", x.drop(0, 2), 0);
        Check.due("rule(7)", x.rule(7), 0);
        Check.due("drop(0, 1), none left", x.drop(0, 1), Check.BAD);
        Check.due("insert", x.insert(0, '('), 1);
        Check.due("no mark comes back", x.sign(0, 6), 0);
    }

    private static void moved(int i, int n, int j, String want) {
        FoldKeeper x = Check.holding("ab(de[", 2, 5);
        Check.due("move(" + i + ", " + n + ", " + j + ")", x.move(i, n, j), 1);
        Check.dueSigns("move(" + i + ", " + n + ", " + j + ")", x, want);
        Check.due("rule(8)", x.rule(8), 1);
        Check.due("undo", x.undo(), 6);
        Check.dueSigns("move undone", x, "ab(*de[*");
    }

    private static void move() {
        moved(0, 1, 0, "ab(*de[*");
        moved(0, 1, 1, "ab(*de[*");
        moved(0, 1, 2, "ba(*de[*");
        moved(0, 1, 6, "b(*de[*a");
        moved(5, 1, 0, "[*ab(*de");
        moved(1, 3, 0, "b(*dae[*");
        moved(1, 3, 5, "aeb(*d[*");
        moved(1, 3, 6, "ae[*b(*d");
        moved(1, 3, 1, "ab(*de[*");
        moved(1, 3, 4, "ab(*de[*");
        moved(2, 4, 1, "a(*de[*b");
        moved(0, 6, 0, "ab(*de[*");
        moved(0, 6, 6, "ab(*de[*");
        FoldKeeper x = amid("ab(de", 2);
        int[][] wrong = {{0, 2, 1}, {1, 3, 2}, {1, 3, 3}, {-1, 1, 0}, {5, 1, 0}, {0, 0, 0}, {0, 6, 0}, {0, 1, -1},
            {0, 1, 6}, {0, MAX, 0}, {MAX, 1, 0}, {0, 1, MAX}, {0, 1, MIN}, {1, MIN, 0}, {4, MAX, 5}};
        for (int[] w : wrong) {
            refused(x, "move(" + w[0] + ", " + w[1] + ", " + w[2] + ")", x.move(w[0], w[1], w[2]), Check.BAD, "ab(*de");
        }
    }

    private static void copied(int i, int n, int j, String want) {
        FoldKeeper x = Check.holding("a(b]", 1);
        Check.due("copy(" + i + ", " + n + ", " + j + ")", x.copy(i, n, j), 4 + n);
        Check.dueSigns("copy(" + i + ", " + n + ", " + j + ")", x, want);
    }

    private static void copy() {
        copied(0, 1, 0, "aa(*b]");
        copied(0, 4, 4, "a(*b]a(*b]");
        copied(0, 4, 0, "a(*b]a(*b]");
        copied(0, 4, 2, "a(*a(*b]b]");
        copied(1, 2, 2, "a(*(*bb]");
        copied(1, 2, 0, "(*ba(*b]");
        copied(1, 2, 4, "a(*b](*b");
        copied(3, 1, 1, "a](*b]");
        FoldKeeper x = amid("a(b", 1);
        int[][] wrong = {{-1, 1, 0}, {3, 1, 0}, {0, 0, 0}, {0, 4, 0}, {0, 1, -1}, {0, 1, 4}, {0, MAX, 0}, {MAX, MAX, 0},
            {0, 1, MAX}, {0, 1, MIN}, {2, MAX, 0}, {0, MIN, 0}};
        for (int[] w : wrong) {
            refused(x, "copy(" + w[0] + ", " + w[1] + ", " + w[2] + ")", x.copy(w[0], w[1], w[2]), Check.BAD, "a(*b");
        }
        FoldKeeper full = amid("b".repeat(40));
        refused(full, "copy of 21", full.copy(0, 21, 0), Check.FULL, "b".repeat(40));
        refused(full, "copy of 41", full.copy(0, 41, 0), Check.BAD, "b".repeat(40));
        refused(full, "copy of 21 to no place", full.copy(0, 21, 41), Check.BAD, "b".repeat(40));
        Check.due("copy of 20", full.copy(0, 20, 40), 60);
        Check.due("copy, full", full.copy(0, 1, 0), Check.FULL);
    }

    private static void turn() {
        FoldKeeper x = amid("a([{)/}]z", 1, 2, 3);
        int[][] wrong = {{-1, 1}, {9, 1}, {0, 0}, {0, 10}, {8, 2}, {MAX, 1}, {0, MAX}, {8, MAX}, {0, MIN}};
        for (int[] w : wrong) {
            refused(x, "turn(" + w[0] + ", " + w[1] + ")", x.turn(w[0], w[1]), Check.BAD, "a(*[*{*)/}]z");
        }
        Check.due("turn(2, 5)", x.turn(2, 5), 4);
        Check.dueSigns("turn", x, "a(*{/(}]]z");
        Check.due("turn(0, 9)", x.turn(0, 9), 6);
        Check.dueSigns("turn", x, "z[[{)/})a");
        Check.due("rule(7)", x.rule(7), 0);
        Check.due("turn of one", x.turn(8, 1), 0);
        Check.due("undo", x.undo(), 9);
        Check.due("undo", x.undo(), 9);
        Check.due("undo", x.undo(), 9);
        Check.dueSigns("turn undone", x, "a(*[*{*)/}]z");
    }

    private static void mark() {
        FoldKeeper x = amid("a({)", 2);
        int[][] wrong = {{-1, 1}, {4, 1}, {0, 1}, {3, 1}, {0, 0}, {3, 0}, {1, 2}, {1, -1}, {MAX, 0}, {MIN, 1}, {1, MAX}};
        for (int[] w : wrong) {
            refused(x, "mark(" + w[0] + ", " + w[1] + ")", x.mark(w[0], w[1]), Check.BAD, "a({*)");
        }
        Check.due("mark(1, 0)", x.mark(1, 0), 0);
        Check.due("an edit, though all stays", x.rule(8), 2);
        Check.due("mark(1, 1)", x.mark(1, 1), 0);
        Check.due("mark(1, 1)", x.mark(1, 1), 1);
        Check.dueSigns("mark", x, "a(*{*)");
        Check.due("mark(2, 0)", x.mark(2, 0), 1);
        Check.dueSigns("mark", x, "a(*{)");
        Check.due("undo", x.undo(), 4);
        Check.dueSigns("mark undone", x, "a(*{*)");
    }

    /** What grow has to do, over longs and a text. */
    private static String grown(String signs, int seed, int n) {
        StringBuilder row = new StringBuilder(signs);
        long state = seed & 0xffffffffL;
        for (int t = 0; t < n && row.length() < 60; t++) {
            state = (state * 1103515245L + 12345L) % (1L << 32);
            int got = (int) (state / 65536 % 32768);
            row.insert(got % (row.length() + 1), "()[]{}az/".charAt(got / 64 % 9));
        }
        return row.toString();
    }

    private static void grow() {
        int[] seeds = {0, 1, 7, 12345, -1, MAX, MIN, 987654321};
        for (int seed : seeds) {
            FoldKeeper x = new FoldKeeper();
            Check.due("grow(" + seed + ", 30)", x.grow(seed, 30), 30);
            String once = grown("", seed, 30);
            Check.dueSigns("grow(" + seed + ", 30)", x, once);
            Check.due("grow(" + seed + ", 29)", x.grow(seed, 29), 29);
            Check.due("grow(" + seed + ", 1)", x.grow(~seed, 1), 1);
            String twice = grown(grown(once, seed, 29), ~seed, 1);
            Check.dueSigns("grow(" + seed + ", 29)", x, twice);
            Check.due("grow, full", x.grow(seed, 30), 0);
            Check.due("one edit each, also of none", x.rule(8), 4);
            x.drop(0, 3);
            Check.due("grow, room for three", x.grow(seed, 30), 3);
            Check.dueSigns("grow, room for three", x, grown(twice.substring(3), seed, 30));
        }
        FoldKeeper x = amid("a(", 1);
        int[] wrong = {0, -1, 31, MAX, MIN};
        for (int n : wrong) {
            refused(x, "grow(1, " + n + ")", x.grow(1, n), Check.BAD, "a(*");
        }
    }

    private static FoldKeeper ofAllEdits() {
        FoldKeeper x = Check.holding("(a/)[", 0, 4);
        x.sheet(0, 0, 1);
        x.lay(0, 0, 'q');
        return x;
    }

    private static void edit(FoldKeeper x, int t) {
        switch (t) {
            case 1: x.put(0, '('); break;
            case 2: x.insert(1, '{'); break;
            case 3: x.mark(1, 1); break;
            case 4: x.copy(0, 3, 4); break;
            case 5: x.move(0, 2, 5); break;
            case 6: x.turn(0, 7); break;
            case 7: x.drop(2, 3); break;
            case 8: x.grow(99, 9); break;
            default: x.read(0, 0, 0, 1); break;
        }
    }

    private static void undoEach() {
        String[] states = new String[10];
        FoldKeeper first = ofAllEdits();
        FoldKeeper x = ofAllEdits();
        FoldKeeper again = ofAllEdits();
        states[0] = Check.signsOf(first);
        for (int t = 1; t < 10; t++) {
            edit(first, t);
            edit(x, t);
            edit(again, t);
            states[t] = Check.signsOf(first);
        }
        for (int t = 8; t >= 0; t--) {
            Check.due("undo to " + t, x.undo(), states[t].replace("*", "").length());
            Check.dueSigns("undo to " + t, x, states[t]);
            Check.due("rule(8)", x.rule(8), t);
            Check.due("rule(9)", x.rule(9), 9 - t);
            again.undo();
        }
        Check.due("undo, none", x.undo(), Check.STATE);
        for (int t = 1; t <= 9; t++) {
            Check.due("redo to " + t, again.redo(), states[t].replace("*", "").length());
            Check.dueSigns("redo to " + t, again, states[t]);
            Check.due("rule(8)", again.rule(8), t);
        }
        Check.due("redo, none", again.redo(), Check.STATE);
    }

    private static void undoneFollows() {
        FoldKeeper x = Check.holding("(/)", 0);
        x.drop(2, 1);
        Check.due("rule(2)", x.rule(2), 0);
        Check.due("undo", x.undo(), 3);
        Check.due("rule(2), undone", x.rule(2), 1);
        Check.due("rule(6), undone", x.rule(6), 1);
        Check.due("low, undone", x.low(0, 3), 0);
        Check.due("redo", x.redo(), 2);
        Check.due("rule(2), done again", x.rule(2), 0);
        Check.due("rule(6), done again", x.rule(6), 0);
        Check.due("bare, done again", x.bare(0, 0), 0);
    }

    private static void undoTwenty() {
        FoldKeeper x = new FoldKeeper();
        for (int t = 0; t < 45; t++) {
            x.insert(t, 'a' + t % 26);
            Check.due("rule(8)", x.rule(8), Math.min(t + 1, 20));
        }
        for (int t = 1; t <= 20; t++) {
            Check.due("undo", x.undo(), 45 - t);
        }
        Check.due("the 21st undo", x.undo(), Check.STATE);
        Check.due("rule(0)", x.rule(0), 25);
        Check.due("rule(9)", x.rule(9), 20);
        for (int t = 1; t <= 20; t++) {
            Check.due("redo", x.redo(), 25 + t);
            Check.due("sign", x.sign(24 + t, 0), 'a' + (24 + t) % 26);
        }
        Check.due("the 21st redo", x.redo(), Check.STATE);
    }

    private static void redoTillAnother() {
        FoldKeeper x = new FoldKeeper();
        x.insert(0, 'a');
        x.insert(1, 'b');
        x.insert(2, 'c');
        x.undo();
        x.undo();
        x.keep(0);
        x.sign(0, 0);
        Check.due("rule(9)", x.rule(9), 2);
        x.put(0, 'a');
        Check.due("rule(9) behind another edit", x.rule(9), 0);
        Check.due("redo", x.redo(), Check.STATE);
        Check.due("rule(8)", x.rule(8), 2);
        Check.due("undo", x.undo(), 1);
        Check.due("undo", x.undo(), 0);
    }

    private static void images() {
        FoldKeeper x = Check.holding("a(b", 1);
        int[] wrong = {-1, 2, MAX, MIN};
        for (int k : wrong) {
            Check.due("keep(" + k + ")", x.keep(k), Check.BAD);
            Check.due("back(" + k + ")", x.back(k), Check.BAD);
        }
        Check.due("back(0), none", x.back(0), Check.STATE);
        Check.due("back(1), none", x.back(1), Check.STATE);
        Check.due("keep(0)", x.keep(0), 0);
        Check.due("count(0)", x.count(0), 1);
        x.turn(0, 3);
        x.drop(0, 1);
        Check.due("keep is no edit", x.rule(8), 2);
        Check.due("keep(1)", x.keep(1), 0);
        Check.due("back(0)", x.back(0), 3);
        Check.dueSigns("back(0)", x, "a(*b");
        Check.due("rule(8)", x.rule(8), 0);
        Check.due("undo", x.undo(), Check.STATE);
        x.insert(0, 'z');
        x.undo();
        Check.due("back(1)", x.back(1), 2);
        Check.due("rule(9)", x.rule(9), 0);
        Check.due("redo", x.redo(), Check.STATE);
        Check.dueSigns("back(1)", x, ")a");
        Check.due("rule(3): all follows", x.rule(3), 1);
        Check.due("keep(1) anew", x.keep(1), 1);
        x.insert(0, 'q');
        Check.due("back(1)", x.back(1), 2);
        Check.due("back(0), still there", x.back(0), 3);
        Check.dueSigns("back(0)", x, "a(*b");
        Check.due("count(0)", x.count(0), 2);
        x.insert(3, 'k');
        Check.due("undo behind back()", x.undo(), 3);
        Check.dueSigns("undo behind back()", x, "a(*b");
    }
}
