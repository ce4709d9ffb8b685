/** The terms: answers, SIGNS, LINES, PARTNERS, DEPTH, LEVEL, FOLDED, HIDDEN. */
final class TermEdges {
    private static final int BAD = -1, STATE = -2, FULL = -3, NONE = -4;
    private static final int MAX = Keeper.MAX, MIN = Keeper.MIN;
    private static final String ALL_SIGNS = "([{)]}abcdefghijklmnopqrstuvwxyz/";

    private TermEdges() {
    }

    static void run() {
        calls();
        answers();
        firstThatFits();
        signs();
        lines();
        partners();
        depthAndLevel();
        folds();
    }

    private static void says(String words, Runnable test) {
        Document.says(0, words, test);
    }

    private static void calls() {
        says("An object is used for at most 512 calls after it has been made; what later calls answer is free.", () -> {
            Keeper x = new Keeper();
            for (int t = 0; t < 255; t++) {
                x.due(1, "insert", 0, '(').due(0, "drop", 0, 1);
            }
            x.due(1, "insert", 0, '(').due(20, "rule", 8);
            Check.due("calls", x.calls(), 512);
        });
    }

    private static void answers() {
        says("Answers: BAD -1 (a number is not as told, there is no such SIGN, LINE, IMAGE, SHEET)", () -> {
            Check.due("BAD", FoldKeeper.BAD, -1);
            Keeper.of("a(b").due(-1, "rule", 11).due(-1, "sign", 3, 0).due(-1, "sign", 3, 8).due(-1, "keep", 2)
                .due(-1, "back", 2).due(-1, "sheet", 4, 0, 0).due(-1, "lay", 4, 0, 0).due(-1, "read", 4, 0, 0, 0);
        });
        says("STATE -2 (as told)", () -> {
            Check.due("STATE", FoldKeeper.STATE, -2);
            new Keeper().due(-2, "undo").due(-2, "redo").due(-2, "back", 0).due(-2, "back", 1);
        });
        says("FULL -3", () -> {
            Check.due("FULL", FoldKeeper.FULL, -3);
            Keeper.of("a".repeat(60)).due(-3, "insert", 0, 'a').due(-3, "copy", 0, 1, 0);
        });
        says("NONE -4 (there is none)", () -> {
            Check.due("NONE", FoldKeeper.NONE, -4);
            Keeper.of("a").due(-4, "reason", 0).due(-4, "sign", 0, 3).due(-4, "around", 0, 3).due(-4, "bare", 0, 0)
                .due(-4, "seen", 1).due(-4, "count", 2);
        });
    }

    private static void firstThatFits() {
        says("the first that fits", () -> {
            new Keeper().feeds(" ".repeat(160)).due(BAD, "feed", 128).due(BAD, "feed", -1).due(FULL, "feed", 127);
            Keeper.of("a".repeat(60)).due(BAD, "insert", 61, 'a').due(BAD, "insert", -1, 'a').due(BAD, "insert", 0, '!')
                .due(BAD, "copy", 0, 61, 0).due(BAD, "copy", 0, 0, 0).due(BAD, "copy", 60, 1, 0).due(BAD, "copy", 0, 1, 61)
                .due(BAD, "copy", 0, 1, -1).due(FULL, "copy", 0, 60, 60);
            new Keeper().due(BAD, "reason", 3).due(BAD, "reason", -1).due(BAD, "back", 2).due(BAD, "back", -1)
                .due(BAD, "sheet", 4, 0, -1).due(BAD, "sheet", 0, 3, -1).due(BAD, "lay", 4, -1, 0).due(BAD, "read", 4, 0, -1, 1);
            Keeper.of("abc").due(BAD, "bare", 4, 0).due(BAD, "bare", 0, 2).due(BAD, "around", 3, 3).due(BAD, "around", 0, 4);
        });
    }

    private static void signs() {
        says("SIGNS 0 on (60 at most)", () -> {
            Keeper x = new Keeper();
            for (int n = 1; n <= 60; n++) {
                x.due(n, "insert", n - 1, 'a');
            }
            x.due(FULL, "insert", 60, 'a').due(60, "rule", 0).due('a', "sign", 0, 0).due('a', "sign", 59, 0)
                .due(BAD, "sign", 60, 0).due(BAD, "sign", -1, 0);
        });
        says("each a byte: ( [ { open, ) ] } close", () -> {
            dueSidesOf("([{", 3, 0);
            dueSidesOf(")]}", 0, 3);
            dueSidesOf("az/", 0, 0);
        });
        says("each two of a KIND (0, 1, 2);", () -> {
            String[] pairs = {"(a)", "[a]", "{a}"};
            for (int kind = 0; kind < 3; kind++) {
                Keeper x = Keeper.of(pairs[kind]).due(2, "sign", 0, 4).due(0, "sign", 2, 4).due(0, "sign", 0, 5);
                for (int other = 0; other < 3; other++) {
                    x.due(other == kind ? 0 : NONE, "around", 1, other);
                }
            }
        });
        says("a .. z letters;", () -> {
            new Keeper().due(1, "insert", 0, 'a').due(2, "insert", 1, 'z').due(BAD, "insert", 0, 'a' - 1)
                .due(BAD, "insert", 0, 'A').due(BAD, "insert", 0, 'Z').dueSigns("az");
            Check.due("the byte behind z opens", Keeper.of("z").does("insert", 1, 'z' + 1).ask("count", 3), 1);
            onlySigns();
        });
        says("/ ends a LINE.", () -> Keeper.of("a/").due(2, "rule", 1).due(BAD, "insert", 0, '/' - 1)
            .due(BAD, "insert", 0, '/' + 1).due(BAD, "insert", 0, '\\').due(BAD, "insert", 0, '\n').due(2, "rule", 1));
        says("A SIGN that opens may have a MARK.", () -> {
            for (char c : ALL_SIGNS.toCharArray()) {
                boolean opens = "([{".indexOf(c) >= 0;
                Keeper.of("" + c).due(opens ? 0 : BAD, "mark", 0, 1).due(opens ? 1 : 0, "sign", 0, 6);
                new Keeper().dueText(opens ? 1 : -23, "row\"" + c + "\";mark0;");
            }
        });
    }

    private static void dueSidesOf(String signs, int opening, int closing) {
        Keeper.of(signs).due(opening, "count", 3).due(closing, "count", 4);
    }

    /** Of all numbers near those of a byte, these signs alone are taken. */
    private static void onlySigns() {
        Keeper x = new Keeper();
        for (int c = -2; c <= 300; c++) {
            boolean is = c >= 0 && c < 128 && ALL_SIGNS.indexOf((char) c) >= 0;
            x.due(is ? 1 : BAD, "insert", 0, c);
            if (is) {
                x.does("drop", 0, 1);
            }
        }
        x.due(BAD, "insert", 0, 'a' + 65536).due(BAD, "insert", 0, 'a' - 256).due(BAD, "insert", 0, MAX).due(BAD, "insert", 0, MIN);
    }

    private static void lines() {
        says("LINES 0 on: a SIGN is in the LINE by how many / are ahead of it;", () -> {
            Keeper.of("/a//b").dueOfEach(8, 0, 1, 1, 2, 3);
            Keeper.of("/".repeat(60)).due(0, "sign", 0, 8).due(59, "sign", 59, 8);
        });
        says("there is one more than there are /.", () -> {
            new Keeper().due(1, "rule", 1);
            Keeper.of("a").due(1, "rule", 1);
            Keeper.of("/").due(2, "rule", 1).does("drop", 0, 1).due(1, "rule", 1);
            Keeper.of("/".repeat(60)).due(61, "rule", 1);
        });
    }

    private static void partners() {
        says("PARTNERS (ALL): by order, one that opens is laid on a heap, one that closes takes the topmost off: both are "
            + "PARTNERS, whatever their KINDS, a PAIR;", () -> {
            Keeper.of("([)]").dueOfEach(3, 3, 2, 1, 0).due(2, "rule", 2);
            Keeper.of("()[]").dueOfEach(3, 1, 0, 3, 2).due(2, "rule", 2);
            Keeper.of("(".repeat(30) + "]".repeat(30)).due(59, "sign", 0, 3).due(30, "sign", 29, 3).due(29, "sign", 30, 3)
                .due(0, "sign", 59, 3).due(30, "rule", 2);
        });
        says("is there none on it, that one is BARE;", () -> {
            Keeper.of(")").due(NONE, "sign", 0, 3).due(1, "rule", 3).due(0, "bare", 0, 0);
            Keeper.of("())").dueOfEach(3, 1, 0, NONE).due(1, "rule", 3).due(2, "bare", 0, 0);
            Keeper.of(")".repeat(60)).due(60, "rule", 3).due(0, "rule", 2);
        });
        says("so are those that are left on it.", () -> {
            Keeper.of("(").due(NONE, "sign", 0, 3).due(1, "rule", 3).due(0, "bare", 0, 0);
            Keeper.of("(()").dueOfEach(3, NONE, 2, 1).due(1, "rule", 3).due(0, "bare", 0, 0);
            Keeper.of("(".repeat(60)).due(60, "rule", 3).due(0, "rule", 2);
        });
        says("Others are none of this.", () -> Keeper.of("a/z").dueOfEach(3, NONE, NONE, NONE).dueOfEach(4, NONE, NONE, NONE)
            .due(0, "rule", 2).due(0, "rule", 3).due(NONE, "bare", 0, 0).due(NONE, "bare", 3, 1));
        says("ALONE: the same with brackets of one KIND, as if there were no others.", () -> {
            Keeper.of("([)]").dueOfEach(4, 2, 3, 0, 1);
            Keeper.of("(])").dueOfEach(4, 2, NONE, 0);
            Keeper.of("{{[(}").dueOfEach(4, NONE, 4, NONE, NONE, 1);
            Keeper.of("}{").dueOfEach(4, NONE, NONE);
        });
        says("A PAIR (ALL) of two KINDS CLASHES.", () -> {
            for (int a = 0; a < 3; a++) {
                for (int b = 0; b < 3; b++) {
                    int clash = a == b ? 0 : 1;
                    Keeper.of("" + "([{".charAt(a) + ")]}".charAt(b)).due(clash, "rule", 4).dueOfEach(5, clash, clash);
                }
            }
            Keeper.of("]a(").due(0, "rule", 4).dueOfEach(5, 0, 0, 0);
        });
    }

    private static void depthAndLevel() {
        says("DEPTH at a place p (0 to SIGNS; ahead of SIGN p): how many of the SIGNS ahead open less how many close", () -> {
            Keeper.of("(a[").dueOfEach(1, 0, 1, 1).due(0, "low", 0, 0).due(1, "low", 1, 1).due(1, "low", 2, 2)
                .due(2, "low", 3, 3).due(BAD, "low", 4, 4).due(BAD, "low", -1, -1);
            new Keeper().due(0, "low", 0, 0).due(BAD, "low", 1, 1);
            Keeper.of("{".repeat(60)).due(59, "sign", 59, 1).due(60, "low", 60, 60);
        });
        says("(it may be below 0).", () -> Keeper.of(")".repeat(60)).due(0, "sign", 0, 1).due(-1, "sign", 1, 1)
            .due(-59, "sign", 59, 1).due(-60, "low", 60, 60));
        says("LEVEL of a SIGN: within how many PAIRS (ALL) it lies (its own is none of these).", () -> {
            Keeper.of("([a])").dueOfEach(2, 0, 1, 2, 1, 0);
            Keeper.of("()").dueOfEach(2, 0, 0);
            Keeper.of("((a)").dueOfEach(2, 0, 0, 1, 0);
            Keeper.of("(a").dueOfEach(2, 0, 0);
            Keeper.of("([)a]").dueOfEach(2, 0, 1, 1, 1, 0);
            Keeper.of("(a]").dueOfEach(2, 0, 1, 0);
            Keeper.of("[(a]b").dueOfEach(2, 0, 0, 1, 0, 0);
            Keeper.of("(".repeat(30) + ")".repeat(30)).due(29, "sign", 29, 2).due(29, "sign", 30, 2).due(0, "sign", 59, 2);
        });
    }

    private static void folds() {
        says("FOLDED is a PAIR (ALL) whose first has a MARK, with a / between them.", () -> {
            Keeper.of("(/)", 0).due(1, "rule", 5);
            Keeper.of("(/]", 0).due(1, "rule", 5);
            Keeper.of("(/)").due(0, "rule", 5);
            Keeper.of("(a)", 0).due(0, "rule", 5);
            Keeper.of("()", 0).due(0, "rule", 5);
            Keeper.of("()/", 0).due(0, "rule", 5);
            Keeper.of("/()", 1).due(0, "rule", 5);
            Keeper.of("(/", 0).due(0, "rule", 5);
            Keeper.of("((/)", 0).due(0, "rule", 5);
            Keeper.of("((/))", 0).due(1, "rule", 5);
            Keeper.of("((/))", 1).due(1, "rule", 5);
            Keeper.of("((/))", 0, 1).due(2, "rule", 5);
            Keeper.of("(()/)", 1).due(0, "rule", 5);
        });
        says("HIDDEN are all SIGNS between the two of a PAIR that is FOLDED.", () -> {
            Keeper.of("x(a/b)y", 1).dueOfEach(7, 0, 0, 1, 1, 1, 0, 0).due(3, "rule", 6);
            Keeper.of("((/))", 1).dueOfEach(7, 0, 0, 1, 0, 0).due(1, "rule", 6);
            Keeper.of("((/))", 0, 1).dueOfEach(7, 0, 1, 1, 1, 0).due(3, "rule", 6);
            Keeper.of("(ab)", 0).dueOfEach(7, 0, 0, 0, 0).due(0, "rule", 6);
            Keeper.of("(/]b)", 0).dueOfEach(7, 0, 1, 0, 0, 0).due(1, "rule", 6);
            Keeper.of("(/" + "a".repeat(57) + ")", 0).due(0, "sign", 0, 7).due(1, "sign", 1, 7).due(1, "sign", 58, 7)
                .due(0, "sign", 59, 7).due(58, "rule", 6);
        });
    }
}
