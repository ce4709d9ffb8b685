/** Promises 7 to 14: what follows from the signs. */
final class BracketEdges {
    private static final int BAD = -1, NONE = -4;
    private static final int MAX = Keeper.MAX, MIN = Keeper.MIN;
    private static final int[] NO_SIGNS_OF_THREE = {-1, 3, 4, 60, MAX, MIN};
    private static final int[] NO_PLACES_OF_THREE = {-1, 4, 5, 61, MAX, MIN};

    private BracketEdges() {
    }

    static void run() {
        ruleOfSigns();
        ruleOfFolds();
        ruleOfEdits();
        sign();
        signOfMarksAndLines();
        low();
        around();
        whole();
        bare();
        longest();
        seen();
    }

    private static String nested(int pairs) {
        return "(".repeat(pairs) + ")".repeat(pairs);
    }

    private static void ruleOfSigns() {
        Document.says(7, "How many: 0 SIGNS,", () -> {
            new Keeper().due(0, "rule", 0);
            Keeper.of("a").due(1, "rule", 0).does("drop", 0, 1).due(0, "rule", 0);
            Keeper.of("a".repeat(60)).due(60, "rule", 0);
        });
        Document.says(7, "1 LINES,", () -> {
            new Keeper().due(1, "rule", 1);
            Keeper.of("/".repeat(60)).due(61, "rule", 1);
        });
        Document.says(7, "2 PAIRS (ALL),", () -> {
            new Keeper().due(0, "rule", 2);
            Keeper.of(")(").due(0, "rule", 2);
            Keeper.of("([)]").due(2, "rule", 2);
            Keeper.of(nested(30)).due(30, "rule", 2);
        });
        Document.says(7, "3 BARE ones (ALL),", () -> {
            new Keeper().due(0, "rule", 3);
            Keeper.of("(]").due(0, "rule", 3);
            Keeper.of(")a(").due(2, "rule", 3);
            Keeper.of(")".repeat(30) + "(".repeat(30)).due(60, "rule", 3);
        });
        Document.says(7, "4 PAIRS that CLASH,", () -> {
            new Keeper().due(0, "rule", 4);
            Keeper.of("(){}[]").due(0, "rule", 4);
            Keeper.of("([)]").due(2, "rule", 4);
            Keeper.of("(]".repeat(30)).due(30, "rule", 4);
        });
    }

    private static void ruleOfFolds() {
        Document.says(7, "5 PAIRS that are FOLDED,", () -> {
            new Keeper().due(0, "rule", 5);
            Keeper x = Keeper.of("(".repeat(29) + "//" + ")".repeat(29)).due(0, "rule", 5);
            for (int i = 0; i < 29; i++) {
                x.due(0, "mark", i, 1).due(i + 1, "rule", 5);
            }
        });
        Document.says(7, "6 HIDDEN SIGNS,", () -> {
            new Keeper().due(0, "rule", 6);
            Keeper.of("(/)", 0).due(1, "rule", 6).does("drop", 1, 1).due(0, "rule", 6);
            Keeper.of("(" + "/".repeat(58) + ")", 0).due(58, "rule", 6).does("mark", 0, 0).due(0, "rule", 6);
        });
        Document.says(7, "7 MARKS,", () -> {
            Keeper x = new Keeper().due(0, "rule", 7).dueText(60, "row\"" + "[".repeat(60) + "\";");
            for (int i = 0; i < 60; i++) {
                x.due(0, "mark", i, 1).due(i + 1, "rule", 7);
            }
            x.due(1, "mark", 59, 0).due(59, "rule", 7).due('[', "put", 0, '[').due(58, "rule", 7);
        });
        Document.says(7, "10 the greatest LEVEL (0: no SIGNS).", () -> {
            new Keeper().due(0, "rule", 10);
            Keeper.of("()").due(0, "rule", 10);
            Keeper.of("((((").due(0, "rule", 10);
            Keeper.of("(a)").due(1, "rule", 10).does("drop", 0, 3).due(0, "rule", 10);
            Keeper.of("(())()").due(1, "rule", 10);
            Keeper.of(nested(30)).due(29, "rule", 10);
            Keeper.of("(".repeat(29) + "ab" + ")".repeat(29)).due(29, "rule", 10);
        });
    }

    private static void ruleOfEdits() {
        Document.says(7, "8 EDITS that can be undone,", () -> {
            Keeper x = new Keeper().due(0, "rule", 8);
            for (int t = 1; t <= 22; t++) {
                x.does("insert", 0, 'a').due(Math.min(t, 20), "rule", 8);
            }
            for (int t = 19; t >= 0; t--) {
                x.does("undo").due(t, "rule", 8);
            }
            x.does("undo").due(0, "rule", 8);
        });
        Document.says(7, "9 that can be done again,", () -> {
            Keeper x = new Keeper().due(0, "rule", 9);
            for (int t = 1; t <= 22; t++) {
                x.does("insert", 0, 'a').due(0, "rule", 9);
            }
            for (int t = 1; t <= 22; t++) {
                x.does("undo").due(Math.min(t, 20), "rule", 9);
            }
            for (int t = 19; t >= 0; t--) {
                x.does("redo").due(t, "rule", 9);
            }
            x.does("redo").due(0, "rule", 9);
        });
        Document.says(7, "BAD.", () -> Keeper.of("a").due(BAD, "rule", -1).due(BAD, "rule", 11).due(BAD, "rule", MAX).due(BAD, "rule", MIN));
    }

    private static void sign() {
        Document.says(8, "Of a SIGN: 0 its byte,", () -> {
            Keeper.of("(a/").dueOfEach(0, '(', 'a', '/');
            Keeper.of("a".repeat(59) + "z").due('a', "sign", 58, 0).due('z', "sign", 59, 0);
            Keeper.of("([{", 0, 1, 2).dueOfEach(0, '(', '[', '{');
        });
        Document.says(8, "1 DEPTH at it,", () -> {
            Keeper.of(")a((").dueOfEach(1, 0, -1, -1, 0);
            Keeper.of("(".repeat(60)).due(0, "sign", 0, 1).due(59, "sign", 59, 1);
        });
        Document.says(8, "2 LEVEL,", () -> Keeper.of("((a)[").dueOfEach(2, 0, 0, 1, 0, 0));
        Document.says(8, "3 its PARTNER by ALL,", () -> Keeper.of("([)]").dueOfEach(3, 3, 2, 1, 0));
        Document.says(8, "4 by its KIND ALONE", () -> Keeper.of("([)]").dueOfEach(4, 2, 3, 0, 1));
        Document.says(8, "(both NONE: it has none),", () -> {
            Keeper.of("a/").dueOfEach(3, NONE, NONE).dueOfEach(4, NONE, NONE);
            Keeper.of(")(").dueOfEach(3, NONE, NONE).dueOfEach(4, NONE, NONE);
            Keeper.of("(]").dueOfEach(3, 1, 0).dueOfEach(4, NONE, NONE);
            Keeper.of("([(]))[)").dueOfEach(3, 5, 4, 3, 2, 1, 0, 7, 6).dueOfEach(4, 5, 3, 4, 1, 2, 0, NONE, NONE);
        });
        Document.says(8, "5 whether its PAIR CLASHES (1, 0),", () -> Keeper.of("(](a){").dueOfEach(5, 1, 1, 0, 0, 0, 0));
    }

    private static void signOfMarksAndLines() {
        Document.says(8, "6 whether it has a MARK,", () -> {
            Keeper.of("([a", 1).dueOfEach(6, 0, 1, 0);
            Keeper.of("a".repeat(59) + "(", 59).due(0, "sign", 58, 6).due(1, "sign", 59, 6);
        });
        Document.says(8, "7 whether it is HIDDEN,", () -> Keeper.of("a(/)b", 1).dueOfEach(7, 0, 0, 1, 0, 0));
        Document.says(8, "8 its LINE.", () -> Keeper.of("a/b/").dueOfEach(8, 0, 0, 1, 1));
        Document.says(8, "BAD.", () -> {
            Keeper x = Keeper.of("(a)");
            for (int what = 0; what <= 8; what++) {
                for (int i : NO_SIGNS_OF_THREE) {
                    x.due(BAD, "sign", i, what);
                }
            }
            x.due(BAD, "sign", 0, -1).due(BAD, "sign", 0, 9).due(BAD, "sign", 2, 9).due(BAD, "sign", 0, MAX).due(BAD, "sign", 0, MIN);
            Keeper.of("a".repeat(60)).due(BAD, "sign", 60, 0).due('a', "sign", 59, 0);
            Keeper.of("ab").does("drop", 1, 1).due(BAD, "sign", 1, 0);
        });
    }

    private static void low() {
        Document.says(9, "The least DEPTH at places i to j.", () -> {
            Keeper.of("a)((b").due(0, "low", 0, 0).due(0, "low", 0, 1).due(-1, "low", 0, 2).due(-1, "low", 2, 3).due(0, "low", 3, 4)
                .due(1, "low", 4, 4).due(1, "low", 5, 5).due(-1, "low", 0, 5);
            Keeper.of("())").due(0, "low", 0, 2).due(-1, "low", 2, 3).due(1, "low", 1, 1).due(0, "low", 1, 2);
            Keeper.of("(".repeat(60)).due(60, "low", 60, 60).due(0, "low", 0, 60).due(59, "low", 59, 60);
            new Keeper().due(0, "low", 0, 0);
        });
        Document.says(9, "BAD: also j below i.", () -> {
            Keeper x = Keeper.of("(a)").due(BAD, "low", 1, 0).due(BAD, "low", 3, 2).due(BAD, "low", 3, 0).due(0, "low", 3, 3);
            for (int p : NO_PLACES_OF_THREE) {
                x.due(BAD, "low", p, p).due(BAD, "low", 0, p).due(BAD, "low", p, 3);
            }
            x.due(BAD, "low", MIN, MAX);
        });
    }

    private static void around() {
        Document.says(10, "The first of the innermost PAIR in which a SIGN lies", () -> {
            Keeper.of("((a)b)").due(1, "around", 2, 3).due(0, "around", 4, 3).due(0, "around", 1, 3).due(0, "around", 3, 3);
            Keeper.of("(" + "a".repeat(58) + ")").due(0, "around", 1, 3).due(0, "around", 58, 3);
            Keeper.of(nested(30)).due(28, "around", 29, 3).due(28, "around", 30, 3);
        });
        Document.says(10, "(its own PAIR does not count, as for LEVEL):", () -> {
            Keeper.of("()").due(NONE, "around", 0, 3).due(NONE, "around", 1, 3).due(NONE, "around", 0, 0).due(NONE, "around", 1, 0);
            Keeper.of("(())").due(0, "around", 1, 3).due(0, "around", 2, 0).due(NONE, "around", 3, 3);
        });
        Document.says(10, "by ALL (kind 3), by a KIND ALONE (0 to 2).", () -> {
            Keeper.of("({[a)}]").due(2, "around", 3, 3).due(0, "around", 3, 0).due(2, "around", 3, 1).due(1, "around", 3, 2)
                .due(NONE, "around", 4, 0).due(1, "around", 4, 2).due(1, "around", 4, 3).due(2, "around", 5, 1).due(NONE, "around", 5, 2);
            Keeper.of("(a]").due(0, "around", 1, 3).due(NONE, "around", 1, 0).due(NONE, "around", 1, 1);
            Keeper.of("[(a]").due(1, "around", 2, 3).due(0, "around", 2, 1).due(NONE, "around", 2, 0);
        });
        Document.says(10, "BAD;", () -> {
            Keeper x = Keeper.of("(a)");
            for (int i : NO_SIGNS_OF_THREE) {
                x.due(BAD, "around", i, 0).due(BAD, "around", i, 3);
            }
            x.due(BAD, "around", 1, -1).due(BAD, "around", 1, 4).due(BAD, "around", 1, MAX).due(BAD, "around", 1, MIN);
        });
        Document.says(10, "NONE.", () -> Keeper.of("(a)b(c").due(NONE, "around", 3, 3).due(NONE, "around", 5, 3).due(NONE, "around", 5, 0)
            .due(NONE, "around", 1, 1).due(NONE, "around", 1, 2).due(NONE, "around", 0, 3));
    }

    private static void whole() {
        Document.says(11, "From place i on: the farthest place j with which all brackets of SIGNS i to j less 1 have their "
            + "PARTNERS (ALL) among them.", () -> {
            dueWhole("a(b)c", 5, 5, 3, 3, 5, 5);
            dueWhole("(", 0, 1);
            dueWhole(")", 0, 1);
            dueWhole("()(", 2, 1, 2, 3);
            dueWhole("(]{)", 4, 1, 4, 3, 4);
            dueWhole("([)]", 4, 3, 2, 3, 4);
            dueWhole("a/b", 3, 3, 3, 3);
            new Keeper().due(0, "whole", 0);
            Keeper.of(nested(30)).due(60, "whole", 0).due(59, "whole", 1).due(31, "whole", 29).due(30, "whole", 30).due(60, "whole", 60);
        });
        Document.says(11, "BAD.", () -> {
            Keeper x = Keeper.of("(a)").due(3, "whole", 3);
            for (int p : NO_PLACES_OF_THREE) {
                x.due(BAD, "whole", p);
            }
            new Keeper().due(BAD, "whole", 1).due(BAD, "whole", -1);
        });
    }

    private static void dueWhole(String signs, int... want) {
        Keeper x = Keeper.of(signs);
        for (int i = 0; i < want.length; i++) {
            x.due(want[i], "whole", i);
        }
        x.due(BAD, "whole", want.length);
    }

    private static void bare() {
        Document.says(12, "The next BARE SIGN (ALL) from place i on (what 0),", () -> {
            Keeper.of("a)()(").due(1, "bare", 0, 0).due(1, "bare", 1, 0).due(4, "bare", 2, 0).due(4, "bare", 4, 0);
            Keeper.of("a".repeat(59) + "(").due(59, "bare", 0, 0).due(59, "bare", 59, 0);
        });
        Document.says(12, "the last one ahead of it (1).", () -> {
            Keeper.of("a)()(").due(1, "bare", 2, 1).due(1, "bare", 4, 1).due(4, "bare", 5, 1);
            Keeper.of("(" + "a".repeat(59)).due(0, "bare", 60, 1).due(0, "bare", 1, 1);
        });
        Document.says(12, "BAD;", () -> {
            Keeper x = Keeper.of(")a(");
            for (int p : NO_PLACES_OF_THREE) {
                x.due(BAD, "bare", p, 0).due(BAD, "bare", p, 1);
            }
            x.due(BAD, "bare", 0, -1).due(BAD, "bare", 0, 2).due(BAD, "bare", 3, MAX).due(BAD, "bare", 3, MIN);
        });
        Document.says(12, "NONE.", () -> {
            Keeper.of("a)()(b").due(NONE, "bare", 5, 0).due(NONE, "bare", 6, 0).due(NONE, "bare", 0, 1).due(NONE, "bare", 1, 1);
            Keeper.of("(]").due(NONE, "bare", 0, 0).due(NONE, "bare", 2, 1).due(NONE, "bare", 2, 0);
            new Keeper().due(NONE, "bare", 0, 0).due(NONE, "bare", 0, 1);
            Keeper.of("a".repeat(60)).due(NONE, "bare", 0, 0).due(NONE, "bare", 60, 0).due(NONE, "bare", 60, 1);
            Keeper.of("a(").does("drop", 1, 1).due(NONE, "bare", 0, 0).due(NONE, "bare", 1, 0).due(NONE, "bare", 1, 1);
        });
    }

    private static void longest() {
        Document.says(13, "The longest part in which all brackets have their PARTNERS (ALL),", () -> {
            dueLongest("a(b)(cd)", 0, 8);
            dueLongest("((a)", 1, 3);
            dueLongest("a)bc", 2, 2);
            dueLongest("(]", 0, 2);
            dueLongest("([)", 1, 2);
            dueLongest(nested(30), 0, 60);
            dueLongest("(" + "a".repeat(59), 1, 59);
        });
        Document.says(13, "of several the first: its first place (what 0), how long it is (1).", () -> {
            dueLongest("a)b)c", 0, 1);
            dueLongest(")a)b", 1, 1);
            dueLongest("ab(cd(ef", 0, 2);
            dueLongest("()(()", 0, 2);
            dueLongest("(".repeat(60), 0, 0);
            dueLongest(")", 0, 0);
            dueLongest("", 0, 0);
        });
        Document.says(13, "BAD.", () -> Keeper.of("a").due(BAD, "longest", -1).due(BAD, "longest", 2).due(BAD, "longest", MAX)
            .due(BAD, "longest", MIN));
    }

    private static void dueLongest(String signs, int first, int length) {
        Keeper.of(signs).due(first, "longest", 0).due(length, "longest", 1);
    }

    private static void seen() {
        Document.says(14, "The k-th SIGN (0 on) that is not HIDDEN.", () -> {
            Keeper.of("a(/)b", 1).due(0, "seen", 0).due(1, "seen", 1).due(3, "seen", 2).due(4, "seen", 3);
            Keeper.of("(/)", 0).due(0, "seen", 0).due(2, "seen", 1);
            Keeper.of("a".repeat(60)).due(0, "seen", 0).due(59, "seen", 59);
            Keeper.of("(" + "/".repeat(58) + ")", 0).due(0, "seen", 0).due(59, "seen", 1).due(NONE, "seen", 2);
        });
        Document.says(14, "BAD: k below 0;", () -> {
            Keeper.of("abc").due(BAD, "seen", -1).due(BAD, "seen", MIN).due(0, "seen", 0);
            new Keeper().due(BAD, "seen", -1);
        });
        Document.says(14, "NONE.", () -> {
            Keeper.of("a(/)b", 1).due(NONE, "seen", 4).due(NONE, "seen", 5).due(NONE, "seen", MAX);
            new Keeper().due(NONE, "seen", 0);
            Keeper.of("a".repeat(60)).due(NONE, "seen", 60);
        });
    }
}
