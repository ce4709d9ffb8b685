/** The terms of THE TAPE, TOKENS, FAULTS and REASON, and promises 1 to 6. */
final class TapeEdges {
    private static final int BAD = -1, STATE = -2, FULL = -3, NONE = -4;
    private static final int MAX = Keeper.MAX, MIN = Keeper.MIN;
    private static final String SIXTY = "(".repeat(60);
    private static final int[] NO_BLANKS = {0, 9, 10, 13, 31, 33, 127};

    private TapeEdges() {
    }

    static void run() {
        tape();
        blanks();
        tokens();
        textLines();
        firstFault();
        faultsOfTokens();
        faultsOfPlaces();
        faultsOfNumbersAndQuotes();
        faultsOfMarks();
        reasons();
        textTaken();
        newObject();
        feed();
        end();
        text();
        fault();
        reason();
    }

    /** A text with a fault, and all that is said of it. */
    private static void faulty(String text, int fault, int place, int line, int token, int inQuote) {
        Check.holds("a text of 160 bytes at most", text.length() <= 160);
        Keeper x = new Keeper().dueText(-10 - place, text);
        int[] got = {x.ask("fault"), x.ask("reason", 0), x.ask("reason", 1), x.ask("reason", 2)};
        int[] want = {fault, line, token, inQuote};
        for (int i = 0; i < 4; i++) {
            Check.due((i == 0 ? "fault()" : "reason(" + (i - 1) + ")") + " of " + text, got[i], want[i]);
        }
    }

    private static Keeper taken(String text, String signs) {
        return new Keeper().dueText(signs.replace("*", "").length(), text).dueSigns(signs).due(0, "fault");
    }

    private static void says(String words, Runnable test) {
        Document.says(0, words, test);
    }

    private static void tape() {
        says("THE TAPE has 160 bytes, places from 0.", () -> {
            new Keeper().feeds(" ".repeat(159)).due(160, "feed", ' ').due(FULL, "feed", ' ').due(160, "count", 1).due(0, "text");
            faulty("!", 1, 0, 0, 0, NONE);
            faulty(" ".repeat(159) + "!", 1, 159, 0, 0, NONE);
            faulty("row" + " ".repeat(157), 2, 160, 0, 1, NONE);
        });
    }

    private static void blanks() {
        says("any number of blanks (32) ahead of, between, behind them", () -> {
            taken("row\"a\";row\"\";", "a");
            taken(" row \"a\" ; rep 2 \"(\" ; mark 1 ; ", "a(*(");
            taken(" ".repeat(50) + "row" + " ".repeat(50) + "\"a\"" + " ".repeat(50) + ";   ", "a");
            taken(" ".repeat(160), "");
            for (int c : NO_BLANKS) {
                faulty((char) c + "row\"a\";", 1, 0, 0, 0, NONE);
                faulty("row" + (char) c + "\"a\";", 1, 3, 0, 1, NONE);
                faulty("row\"a\"" + (char) c + ";", 1, 6, 0, 2, NONE);
                faulty("row\"a\";" + (char) c, 1, 7, 1, 0, NONE);
            }
        });
        says("(one at least between two NAMES, between two NUMBERS; else none is needed):", () -> {
            faulty("rowrow\"a\";", 2, 0, 0, 0, NONE);
            faulty("row row\"a\";", 2, 4, 0, 1, NONE);
            faulty("mark1 2;", 2, 6, 0, 2, NONE);
            taken("row\"aaaaaaaaaaaa(\";mark12;", "a".repeat(12) + "(*");
            taken("rep2\"a\";row\"(\";mark2;", "aa(*");
            faulty("mark1a", 2, 5, 0, 2, NONE);
            faulty("rep1mark", 2, 4, 0, 2, NONE);
        });
    }

    private static void tokens() {
        says("TOKENS, each as long as may be,", () -> {
            faulty("rowx\"a\";", 2, 0, 0, 0, NONE);
            faulty("xrow\"a\";", 2, 0, 0, 0, NONE);
            faulty("rep11\"a\";", 3, 3, 0, 1, NONE);
            faulty("rep111\"a\";", 1, 3, 0, 1, NONE);
        });
        says("NAMES (a .. z),", () -> {
            faulty("a", 2, 0, 0, 0, NONE);
            faulty("z", 2, 0, 0, 0, NONE);
            faulty("`", 1, 0, 0, 0, NONE);
            faulty("{", 1, 0, 0, 0, NONE);
            faulty("A", 1, 0, 0, 0, NONE);
            faulty("ROW\"a\";", 1, 0, 0, 0, NONE);
            faulty("row{\"a\";", 1, 3, 0, 1, NONE);
            faulty("q".repeat(160), 2, 0, 0, 0, NONE);
        });
        says("NUMBERS (1 or 2 figures),", () -> {
            taken("rep9\"a\";", "a".repeat(9));
            taken("rep09\"a\";", "a".repeat(9));
            faulty("rep009\"a\";", 1, 3, 0, 1, NONE);
            faulty("rep/\"a\";", 1, 3, 0, 1, NONE);
            faulty("rep:\"a\";", 1, 3, 0, 1, NONE);
            faulty("rep-1\"a\";", 1, 3, 0, 1, NONE);
            faulty("mark" + "0".repeat(156), 1, 4, 0, 1, NONE);
        });
        says("; and QUOTES: \" (34), bytes but that, \".", () -> {
            taken("row\"\";", "");
            taken("row\"a\";row\"b\";", "ab");
            faulty("row\"a\"b\";", 2, 6, 0, 2, NONE);
            faulty("row!a!;", 1, 3, 0, 1, NONE);
            faulty("row#a#;", 1, 3, 0, 1, NONE);
            faulty("row'a';", 1, 3, 0, 1, NONE);
            faulty("row\"a\":", 1, 6, 0, 2, NONE);
            faulty("row\"a\"<", 1, 6, 0, 2, NONE);
        });
    }

    private static void textLines() {
        says("text: { line } line: row QUOTE ; | rep N QUOTE ; | mark N ;", () -> {
            taken("", "");
            taken("row\"(\";", "(");
            taken("rep2\"(\";", "((");
            taken("row\"(\";mark0;", "(*");
            taken("row\"\";".repeat(26), "");
            faulty("row;", 2, 3, 0, 1, NONE);
            faulty("row 1\"a\";", 2, 4, 0, 1, NONE);
            faulty("rep\"a\";", 2, 3, 0, 1, NONE);
            faulty("rep 1;", 2, 5, 0, 2, NONE);
            faulty("mark;", 2, 4, 0, 1, NONE);
            faulty("mark\"a\";", 2, 4, 0, 1, NONE);
            faulty("mark 0\"a\";", 2, 6, 0, 2, NONE);
            faulty("row\"a\";;", 2, 7, 1, 0, NONE);
        });
        says("row: each byte of it a SIGN more.", () -> {
            taken("row\"\";", "");
            taken("row\"([{)]}az/\";row\"b\";", "([{)]}az/b");
            taken("row\"" + SIXTY + "\";", SIXTY);
        });
        says("rep: N times (1 to 9).", () -> {
            faulty("rep 0\"a\";", 3, 4, 0, 1, NONE);
            taken("rep 1\"ab\";", "ab");
            taken("rep 9\"ab\";", "ab".repeat(9));
            faulty("rep 10\"a\";", 3, 4, 0, 1, NONE);
            taken("rep 9\"\";", "");
        });
        says("mark: SIGN N (0 to 59) has a MARK.", () -> {
            taken("row\"(a\";mark 0;", "(*a");
            taken("row\"" + "a".repeat(59) + "{\";mark 59;", "a".repeat(59) + "{*");
            faulty("row\"" + SIXTY + "\";mark 60;", 3, 71, 1, 1, NONE);
            taken("mark 1;row\"([\";mark 1;", "([*");
        });
    }

    private static void firstFault() {
        says("FAULTS, the first met as it is read (a TOKEN is read when the one before has been taken):", () -> {
            faulty("say!", 2, 0, 0, 0, NONE);
            faulty("row;!", 2, 3, 0, 1, NONE);
            faulty("rep 10!", 3, 4, 0, 1, NONE);
            faulty("mark 60 100", 3, 5, 0, 1, NONE);
            faulty("row\"" + SIXTY + "a\"!", 5, 3, 0, 1, NONE);
            faulty("mark 59;!", 1, 8, 1, 0, NONE);
            faulty("mark 59;mark", 2, 12, 1, 1, NONE);
            faulty("row\"!\"\"?", 1, 4, 0, 1, 0);
        });
    }

    private static void faultsOfTokens() {
        says("1 no TOKEN, a NUMBER that is too long (its first byte);", () -> {
            for (int c = 0; c < 128; c++) {
                boolean begins = c >= 'a' && c <= 'z' || c >= '0' && c <= '9' || c == ';' || c == '"' || c == ' ';
                if (!begins) {
                    faulty("row\"a\"; " + (char) c, 1, 8, 1, 0, NONE);
                }
            }
            faulty("mark  000;", 1, 6, 0, 1, NONE);
            faulty("mark 100", 1, 5, 0, 1, NONE);
            faulty("100", 1, 0, 0, 0, NONE);
            faulty("rep 1111111111111111111111\"a\";", 1, 4, 0, 1, NONE);
        });
        says("in a QUOTE a byte that is no SIGN (it).", () -> {
            for (int c = 0; c < 128; c++) {
                boolean is = "([{)]}abcdefghijklmnopqrstuvwxyz/\"".indexOf((char) c) >= 0;
                if (!is) {
                    faulty("row\"a" + (char) c + "\";", 1, 5, 0, 1, 1);
                }
            }
            faulty("row\"!\";", 1, 4, 0, 1, 0);
            faulty("row\"" + "a".repeat(155) + "!", 1, 159, 0, 1, 155);
        });
    }

    private static void faultsOfPlaces() {
        says("2 a TOKEN that can not stand there", () -> {
            faulty("  ;", 2, 2, 0, 0, NONE);
            faulty("  1", 2, 2, 0, 0, NONE);
            faulty("  \"a\"", 2, 2, 0, 0, NONE);
            faulty("row \"a\" \"b\";", 2, 8, 0, 2, NONE);
            faulty("rep 1 2\"a\";", 2, 6, 0, 2, NONE);
            faulty("mark 0 mark 0;", 2, 7, 0, 2, NONE);
        });
        says("(a NAME that begins no line;", () -> {
            String[] names = {"ro", "rows", "re", "reps", "mar", "marks", "r", "m", "sign", "now", "raw", "rot", "rip", "mask"};
            for (String name : names) {
                faulty(name, 2, 0, 0, 0, NONE);
                faulty("row\"a\";" + name + " 0;", 2, 7, 1, 0, NONE);
            }
        });
        says("or the end: the length;", () -> {
            faulty("row", 2, 3, 0, 1, NONE);
            faulty("row  ", 2, 5, 0, 1, NONE);
            faulty("rep", 2, 3, 0, 1, NONE);
            faulty("rep 1", 2, 5, 0, 2, NONE);
            faulty("rep 1\"a\"", 2, 8, 0, 3, NONE);
            faulty("mark", 2, 4, 0, 1, NONE);
            faulty("mark 0", 2, 6, 0, 2, NONE);
            faulty("row\"a\"" + " ".repeat(154), 2, 160, 0, 2, NONE);
        });
        says("within a QUOTE, too).", () -> {
            faulty("row\"", 2, 4, 0, 1, 0);
            faulty("row\"a", 2, 5, 0, 1, 1);
            faulty("row\"a\";rep 2\"(((", 2, 16, 1, 2, 3);
            faulty("row\"" + "a".repeat(156), 2, 160, 0, 1, 156);
        });
    }

    private static void faultsOfNumbersAndQuotes() {
        says("3 a NUMBER out of its bounds.", () -> {
            faulty("rep 0", 3, 4, 0, 1, NONE);
            faulty("rep 00", 3, 4, 0, 1, NONE);
            faulty("rep 10", 3, 4, 0, 1, NONE);
            faulty("rep 99", 3, 4, 0, 1, NONE);
            faulty("mark 60", 3, 5, 0, 1, NONE);
            faulty("row\"\";mark  99;", 3, 12, 1, 1, NONE);
            faulty("rep 1", 2, 5, 0, 2, NONE);
            faulty("rep 9", 2, 5, 0, 2, NONE);
            faulty("mark 59", 2, 7, 0, 2, NONE);
        });
        says("5 a QUOTE by which there would be more than 60 SIGNS (its first byte).", () -> {
            faulty("row  \"" + SIXTY + "a\";", 5, 5, 0, 1, NONE);
            faulty("row\"" + SIXTY + "\";row \"a\";", 5, 70, 1, 1, NONE);
            faulty("rep 6\"abcdefghijk\";", 5, 5, 0, 2, NONE);
            faulty("rep 9\"abcdefg\";", 5, 5, 0, 2, NONE);
            faulty("rep 9\"abcdef\";row\"aaaaaaa\";", 5, 17, 1, 1, NONE);
            faulty("rep 9\"" + "a".repeat(150) + "\"", 5, 5, 0, 2, NONE);
            taken("rep 6\"abcdefghij\";row\"\";rep 9\"\";", "abcdefghij".repeat(6));
            taken("rep 9\"abcdef\";row\"aaaaaa\";", "abcdef".repeat(9) + "aaaaaa");
        });
    }

    private static void faultsOfMarks() {
        says("Behind all (the length): 6 a MARK of a SIGN that does not open, or is not there.", () -> {
            faulty("mark 0;", 6, 7, NONE, NONE, NONE);
            faulty("row\"(\";mark 1;  ", 6, 16, NONE, NONE, NONE);
            faulty("row\"a\";mark 0;", 6, 14, NONE, NONE, NONE);
            faulty("mark 0;row\"/(\";", 6, 15, NONE, NONE, NONE);
            faulty("row\"(])}\";mark 0;mark 2;", 6, 24, NONE, NONE, NONE);
            faulty("row\"" + "(".repeat(59) + "\";mark 59;", 6, 73, NONE, NONE, NONE);
            faulty("mark 0;" + " ".repeat(153), 6, 160, NONE, NONE, NONE);
            taken("mark 0;row\"(\";", "(*");
            Keeper.of("((").dueText(-25, "row\"(\";mark  1;").due(6, "fault").dueText(-25, "row\"\"; mark  0;").due(6, "fault");
        });
    }

    private static void reasons() {
        says("REASON of a FAULT: the line (0 on, as many as are whole ahead of it),", () -> {
            faulty("!", 1, 0, 0, 0, NONE);
            faulty("row\"a\"!", 1, 6, 0, 2, NONE);
            faulty("row\"a\";!", 1, 7, 1, 0, NONE);
            faulty("row\"\";".repeat(26) + "!", 1, 156, 26, 0, NONE);
        });
        says("the TOKEN in it (0 on, as many as are whole ahead in that line),", () -> {
            faulty("rep 2\"a\";!", 1, 9, 1, 0, NONE);
            faulty("rep 2\"a\";rep!", 1, 12, 1, 1, NONE);
            faulty("rep 2\"a\";rep 2!", 1, 14, 1, 2, NONE);
            faulty("rep 2\"a\";rep 2\"a\"!", 1, 17, 1, 3, NONE);
        });
        says("the byte in its QUOTE (0 on, as many as are ahead of it there;", () -> {
            faulty("row \"!a\";", 1, 5, 0, 1, 0);
            faulty("row \"a!\";", 1, 6, 0, 1, 1);
            faulty("row\"abc\";row \"ab", 2, 16, 1, 1, 2);
            faulty("row \"", 2, 5, 0, 1, 0);
        });
        says("NONE: it lies in no QUOTE, or is 5).", () -> {
            faulty("row\"ab\"!", 1, 7, 0, 2, NONE);
            faulty("row\"ab\"", 2, 7, 0, 2, NONE);
            faulty("rep\"ab\"", 2, 3, 0, 1, NONE);
            faulty("rep 0\"ab\"", 3, 4, 0, 1, NONE);
            faulty("row\"" + SIXTY + "a\"", 5, 3, 0, 1, NONE);
        });
    }

    private static Keeper amid() {
        return Keeper.of("a(b", 1).does("insert", 0, 'x').does("insert", 0, 'y').does("undo").does("keep", 0).does("keep", 1)
            .lays(0, 0, "pq").lays(3, 2, "r");
    }

    private static void textTaken() {
        says("A text that is taken tells all, in place of what there was;", () -> {
            amid().dueText(1, "row\"c\";").dueSigns("c").due(0, "rule", 7);
            amid().dueText(0, "").dueSigns("").due(1, "rule", 1).due(0, "rule", 2);
        });
        says("no edits can be undone, done again;", () -> {
            amid().due(1, "rule", 8).due(1, "rule", 9).dueText(1, "row\"c\";").due(0, "rule", 8).due(0, "rule", 9)
                .due(STATE, "undo").due(STATE, "redo").dueSigns("c");
            amid().dueText(0, "").due(STATE, "undo").due(STATE, "redo");
        });
        says("IMAGES are gone;", () -> amid().due(2, "count", 0).dueText(0, "").due(0, "count", 0).due(STATE, "back", 0)
            .due(STATE, "back", 1).due(0, "keep", 0).due(0, "keep", 1));
        says("SHEETS stay.", () -> amid().dueText(0, "").due(2, "count", 2).due(2, "read", 0, 0, 0, 2).due(1, "read", 3, 2, 0, 1)
            .dueSigns("pqr").due(0, "read", 1, 0, 0, 1).due(1, "torn"));
    }

    private static void newObject() {
        Document.says(1, "No SIGNS;", () -> {
            new Keeper().due(0, "rule", 0).due(BAD, "sign", 0, 0).due(0, "whole", 0).due(BAD, "whole", 1).due(0, "longest", 0)
                .due(0, "longest", 1).due(NONE, "bare", 0, 0).due(NONE, "bare", 0, 1).due(BAD, "bare", 1, 0)
                .due(NONE, "seen", 0).due(0, "low", 0, 0).due(BAD, "low", 0, 1).due(BAD, "around", 0, 3);
            new Keeper().due(BAD, "put", 0, 'a').due(BAD, "insert", 1, 'a').due(BAD, "drop", 0, 1).due(BAD, "move", 0, 1, 0)
                .due(BAD, "copy", 0, 1, 0).due(BAD, "turn", 0, 1).due(BAD, "mark", 0, 1).due(STATE, "undo").due(STATE, "redo")
                .due(STATE, "back", 0).due(STATE, "back", 1);
            Keeper x = new Keeper().due(0, "fault").due(0, "torn").due(0, "end", 0).due(BAD, "end", 1).due(1, "rule", 1);
            for (int what = 2; what <= 10; what++) {
                x.due(0, "rule", what);
            }
            x.due(0, "count", 0).due(0, "count", 1).due(0, "count", 3).due(0, "count", 4).due(0, "text");
        });
        Document.says(1, "SHEETS have nothing.", () -> {
            Keeper x = new Keeper().due(NONE, "count", 2);
            for (int k = 0; k < 4; k++) {
                x.due(-11, "lay", k, 0, 'a');
                for (int lane = 0; lane < 3; lane++) {
                    x.due(0, "read", k, lane, 0, 0).due(0, "torn").due(0, "read", k, lane, 0, 1).due(1, "torn");
                }
            }
        });
    }

    private static void feed() {
        Document.says(2, "A byte (0 to 127) comes behind THE TAPE: how many it has.", () -> {
            new Keeper().due(1, "feed", 0).due(2, "feed", 127).due(2, "count", 1);
            for (int c = 0; c < 128; c++) {
                new Keeper().due(1, "feed", c);
            }
            new Keeper().feeds("row\"ab\"").due(8, "feed", ';').due(2, "text").dueSigns("ab");
        });
        Document.says(2, "BAD;", () -> new Keeper().due(BAD, "feed", -1).due(BAD, "feed", 128).due(BAD, "feed", 'a' + 256)
            .due(BAD, "feed", MAX).due(BAD, "feed", MIN).due(0, "count", 1).due(1, "feed", 32));
        Document.says(2, "FULL: more than 160.", () -> {
            new Keeper().feeds("row\"a\"" + " ".repeat(152)).due(159, "feed", ' ').due(160, "feed", ';').due(FULL, "feed", '!')
                .due(FULL, "feed", 0).due(160, "count", 1).due(1, "text").due(1, "feed", ' ');
            new Keeper().feeds(" ".repeat(160)).due(160, "end", 159).due(160, "feed", ' ').due(FULL, "feed", ' ');
        });
    }

    private static void end() {
        Document.says(3, "THE TAPE keeps its first n bytes: how many it had.", () -> {
            new Keeper().due(0, "end", 0).feeds("row\"abc\";").due(9, "end", 9).due(9, "end", 5).due(5, "count", 1)
                .feeds("z\";").due(2, "text").dueSigns("az");
            new Keeper().feeds("!").due(1, "end", 0).due(0, "count", 1).due(0, "end", 0).due(0, "text");
            new Keeper().feeds(" ".repeat(160)).due(160, "end", 160).due(160, "end", 0).due(1, "feed", ' ');
        });
        Document.says(3, "BAD (n above that, too).", () -> {
            new Keeper().due(BAD, "end", 1).due(BAD, "end", -1).due(BAD, "end", MIN).due(BAD, "end", MAX);
            new Keeper().feeds("row").due(BAD, "end", 4).due(BAD, "end", -1).due(3, "end", 1).due(BAD, "end", 2).due(1, "count", 1);
            new Keeper().feeds(" ".repeat(160)).due(BAD, "end", 161).due(160, "count", 1);
        });
    }

    private static void text() {
        Document.says(4, "THE TAPE (empty then, by a FAULT, too)", () -> {
            new Keeper().dueText(1, "row\"a\";").due(0, "count", 1).due(0, "end", 0).due(1, "feed", ' ').due(0, "text");
            new Keeper().dueText(-10, "!").due(0, "count", 1).due(0, "text").due(0, "fault");
            new Keeper().dueText(-17, "mark 0;").due(0, "count", 1).due(1, "feed", ' ');
        });
        Document.says(4, "tells all: how many SIGNS;", () -> {
            new Keeper().due(0, "text");
            Keeper.of("abc").due(0, "text").due(0, "rule", 0);
            new Keeper().dueText(60, "row\"" + SIXTY + "\";").due(60, "rule", 0);
        });
        Document.says(4, "-10 less the place of its FAULT:", () -> {
            new Keeper().dueText(-10, "!");
            new Keeper().dueText(-11, " !");
            new Keeper().dueText(-169, " ".repeat(159) + "!");
            new Keeper().dueText(-170, "row\"" + "a".repeat(156));
        });
        Document.says(4, "that which was told stays.", () -> {
            String[] wrong = {"!", "say", "row\"b\";rep 0", "row\"b\";row\"" + SIXTY + "\";", "row\"b\";mark 0;"};
            for (String text : wrong) {
                Keeper x = amid().feeds(text);
                Check.holds("a fault in " + text, x.ask("text") <= -10);
                x.dueSigns("xa(*b").due(1, "rule", 8).due(1, "rule", 9).due(2, "count", 0).due(2, "count", 2)
                    .due(5, "redo").dueSigns("yxa(*b").due(4, "undo").due(3, "undo").dueSigns("a(*b").due(4, "back", 1)
                    .dueSigns("xa(*b");
            }
        });
    }

    private static void fault() {
        Document.says(5, "The FAULT of the latest text();", () -> {
            Keeper x = new Keeper().dueText(-10, "!").due(1, "fault").dueText(-10, "say").due(2, "fault").dueText(-14, "rep 0")
                .due(3, "fault").dueText(-17, "mark 0;").due(6, "fault").dueText(-13, "row\"" + SIXTY + "a\"").due(5, "fault");
            x.due(1, "feed", '!').due(5, "fault").due(1, "end", 0).due(1, "insert", 0, 'a').due(0, "undo").due(5, "fault")
                .due(0, "text").due(0, "fault");
        });
        Document.says(5, "0.", () -> new Keeper().due(0, "fault").due(0, "text").due(0, "fault").dueText(1, "row\"a\";").due(0, "fault"));
    }

    private static void reason() {
        Document.says(6, "The REASON of the FAULT of the latest text(): 0 the line, 1 the TOKEN, 2 the byte.", () -> {
            Keeper x = new Keeper().dueText(-26, "row\"a\";rep 2\"bcd!").due(1, "reason", 0).due(2, "reason", 1).due(3, "reason", 2);
            x.does("insert", 0, 'a').does("feed", 'r').due(1, "reason", 0).due(2, "reason", 1).due(3, "reason", 2).does("end", 0);
            x.dueText(-10, "!").due(0, "reason", 0).due(0, "reason", 1).due(NONE, "reason", 2);
        });
        Document.says(6, "BAD;", () -> {
            new Keeper().due(BAD, "reason", -1).due(BAD, "reason", 3).due(BAD, "reason", MAX).due(BAD, "reason", MIN);
            new Keeper().dueText(-10, "!").due(BAD, "reason", -1).due(BAD, "reason", 3);
            new Keeper().dueText(-17, "mark 0;").due(BAD, "reason", -1).due(BAD, "reason", 3);
        });
        Document.says(6, "NONE: there is no FAULT;", () -> {
            Keeper x = new Keeper().due(NONE, "reason", 0).due(NONE, "reason", 1).due(NONE, "reason", 2);
            x.does("feed", '!').does("text").due(0, "reason", 0).due(0, "text").due(NONE, "reason", 0).due(NONE, "reason", 1)
                .due(NONE, "reason", 2);
        });
        Document.says(6, "it is 6.", () -> new Keeper().dueText(-23, "row\"a\";mark0;").due(6, "fault").due(NONE, "reason", 0)
            .due(NONE, "reason", 1).due(NONE, "reason", 2));
    }
}
