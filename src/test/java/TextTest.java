/** Promises 1 to 6: a new object, the tape, the text and its faults. */
public final class TextTest {
    private static final String SIXTY = "(".repeat(60);

    public static void main(String[] args) {
        newObject();
        feed();
        end();
        textTaken();
        textReplaces();
        textRefusedKeeps();
        noToken();
        notHere();
        endWithin();
        outOfBounds();
        tooMany();
        marks();
        firstMet();
        fullTape();
        reasons();
        Check.close();
    }

    private static void newObject() {
        FoldKeeper x = new FoldKeeper();
        int[] rules = {0, 1, 0, 0, 0, 0, 0, 0, 0, 0, 0};
        for (int what = 0; what < rules.length; what++) {
            Check.due("new: rule(" + what + ")", x.rule(what), rules[what]);
        }
        Check.due("new: fault()", x.fault(), 0);
        Check.due("new: torn()", x.torn(), 0);
        for (int what = 0; what < 3; what++) {
            Check.due("new: reason(" + what + ")", x.reason(what), Check.NONE);
        }
        int[] counts = {0, 0, Check.NONE, 0, 0};
        for (int what = 0; what < counts.length; what++) {
            Check.due("new: count(" + what + ")", x.count(what), counts[what]);
        }
        for (int k = 0; k < 4; k++) {
            Check.due("new: lay(" + k + ")", x.lay(k, 0, 0), -11);
        }
        Check.due("new: sign(0, 0)", x.sign(0, 0), Check.BAD);
        Check.due("new: low(0, 0)", x.low(0, 0), 0);
        Check.due("new: whole(0)", x.whole(0), 0);
        Check.due("new: bare(0, 0)", x.bare(0, 0), Check.NONE);
        Check.due("new: longest(0)", x.longest(0), 0);
        Check.due("new: longest(1)", x.longest(1), 0);
        Check.due("new: seen(0)", x.seen(0), Check.NONE);
        Check.due("new: back(0)", x.back(0), Check.STATE);
    }

    private static void feed() {
        FoldKeeper x = new FoldKeeper();
        Check.due("feed(-1)", x.feed(-1), Check.BAD);
        Check.due("feed(128)", x.feed(128), Check.BAD);
        Check.due("feed(max)", x.feed(Integer.MAX_VALUE), Check.BAD);
        Check.due("feed(min)", x.feed(Integer.MIN_VALUE), Check.BAD);
        Check.due("count(1)", x.count(1), 0);
        for (int n = 1; n <= 160; n++) {
            Check.due("feed " + n, x.feed(n == 1 ? 0 : n == 2 ? 127 : 32), n);
        }
        Check.due("feed 161", x.feed(32), Check.FULL);
        Check.due("feed 161, bad", x.feed(128), Check.BAD);
        Check.due("count(1), full", x.count(1), 160);
        Check.due("text() of a full tape", x.text(), -10);
        Check.due("count(1) behind text()", x.count(1), 0);
    }

    private static void end() {
        FoldKeeper x = new FoldKeeper();
        Check.due("end(0), empty", x.end(0), 0);
        Check.due("end(1), empty", x.end(1), Check.BAD);
        Check.type(x, "row\"a\";x");
        Check.due("end(-1)", x.end(-1), Check.BAD);
        Check.due("end(9)", x.end(9), Check.BAD);
        Check.due("end(8)", x.end(8), 8);
        Check.due("end(7)", x.end(7), 8);
        Check.due("count(1)", x.count(1), 7);
        Check.due("text()", x.text(), 1);
        Check.type(x, "row\"bcd\";");
        Check.due("end(5)", x.end(5), 9);
        Check.type(x, "z\";");
        Check.due("text()", x.text(), 2);
        Check.dueSigns("a tape cut and fed on", x, "bz");
    }

    private static void textTaken() {
        FoldKeeper x = new FoldKeeper();
        Check.due("text(), empty", x.text(), 0);
        Check.due("blanks alone", Check.tell(x, "    "), 0);
        Check.due("no blanks", Check.tell(x, "row\"(a/)\";rep2\"[]\";mark0;"), 8);
        Check.dueSigns("no blanks", x, "(*a/)[][]");
        Check.due("many blanks", Check.tell(x, "  row   \"ab\"  ;  rep  3  \"c\" ;  mark  05 ; row \"{\" ;  "), 6);
        Check.dueSigns("many blanks", x, "abccc{*");
        Check.due("empty quotes", Check.tell(x, "row\"\";rep 9\"\";"), 0);
        Check.due("a figure 0 ahead", Check.tell(x, "rep 09 \"a\";"), 9);
        Check.due("all kinds of signs", Check.tell(x, "row \"([{}])az/\";"), 9);
        Check.dueSigns("all kinds of signs", x, "([{}])az/");
        Check.due("sixty", Check.tell(x, "row \"" + SIXTY + "\";mark 59;mark 0;"), 60);
        Check.due("rule(7)", x.rule(7), 2);
        Check.due("nine times six and six", Check.tell(x, "rep 9 \"abcdef\";row \"ghijkl\";row\"\";"), 60);
        Check.due("a mark ahead of its sign", Check.tell(x, "mark 1;mark 1;row \"a(\";"), 2);
        Check.dueSigns("a mark ahead of its sign", x, "a(*");
        Check.due("fault()", x.fault(), 0);
    }

    private static void textReplaces() {
        FoldKeeper x = Check.holding("abc");
        x.insert(0, 'z');
        x.insert(0, 'z');
        x.undo();
        x.keep(0);
        x.keep(1);
        x.sheet(0, 0, 5);
        Check.due("count(0)", x.count(0), 2);
        Check.due("text()", Check.tell(x, "row \"(/)\";mark 0;"), 3);
        Check.dueSigns("text()", x, "(*/)");
        Check.due("rule(8)", x.rule(8), 0);
        Check.due("rule(9)", x.rule(9), 0);
        Check.due("undo()", x.undo(), Check.STATE);
        Check.due("redo()", x.redo(), Check.STATE);
        Check.due("count(0)", x.count(0), 0);
        Check.due("back(0)", x.back(0), Check.STATE);
        Check.due("back(1)", x.back(1), Check.STATE);
        Check.due("count(2)", x.count(2), 5);
        Check.due("text(), empty", x.text(), 0);
        Check.due("rule(0)", x.rule(0), 0);
    }

    private static void textRefusedKeeps() {
        FoldKeeper x = Check.holding("a(", 1);
        x.insert(0, 'z');
        x.insert(0, 'y');
        x.undo();
        x.keep(1);
        Check.due("text()", Check.tell(x, "row \"b\";mark 0;"), -25);
        Check.due("fault()", x.fault(), 6);
        Check.due("count(1)", x.count(1), 0);
        Check.dueSigns("a text refused", x, "za(*");
        Check.due("rule(8)", x.rule(8), 1);
        Check.due("rule(9)", x.rule(9), 1);
        Check.due("count(0)", x.count(0), 1);
        Check.due("redo()", x.redo(), 4);
        Check.due("text()", Check.tell(x, "row \"b\";"), 1);
        Check.due("fault() behind a good text", x.fault(), 0);
        Check.due("reason(0) behind a good text", x.reason(0), Check.NONE);
    }

    /** Tells a text with a fault, and asks for all that is said of it. */
    private static void faulty(String text, int fault, int place, int line, int token, int inQuote) {
        FoldKeeper x = new FoldKeeper();
        Check.due("text() of " + text, Check.tell(x, text), -10 - place);
        Check.due("fault() of " + text, x.fault(), fault);
        Check.due("reason(0) of " + text, x.reason(0), line);
        Check.due("reason(1) of " + text, x.reason(1), token);
        Check.due("reason(2) of " + text, x.reason(2), inQuote);
    }

    private static void noToken() {
        faulty("!", 1, 0, 0, 0, Check.NONE);
        faulty("  (", 1, 2, 0, 0, Check.NONE);
        faulty("Row \"a\";", 1, 0, 0, 0, Check.NONE);
        faulty("roW \"a\";", 2, 0, 0, 0, Check.NONE);
        faulty("rowW \"a\";", 1, 3, 0, 1, Check.NONE);
        faulty("row/\"a\";", 1, 3, 0, 1, Check.NONE);
        faulty("row \"a\";row \"b\"\n;", 1, 15, 1, 2, Check.NONE);
        faulty("row \"a\"; \u0000", 1, 9, 1, 0, Check.NONE);
        faulty("row \"a\";\u007f", 1, 8, 1, 0, Check.NONE);
        faulty("rep 100 \"a\";", 1, 4, 0, 1, Check.NONE);
        faulty("mark 000;", 1, 5, 0, 1, Check.NONE);
        faulty("mark 11111111111111111111111111111111;", 1, 5, 0, 1, Check.NONE);
        faulty("row \" \";", 1, 5, 0, 1, 0);
        faulty("row \"ab;\";", 1, 7, 0, 1, 2);
        faulty("rep 2 \"a0\";", 1, 8, 0, 2, 1);
        faulty("row \"A\";", 1, 5, 0, 1, 0);
        faulty("row \"`\";", 1, 5, 0, 1, 0);
        faulty("row \"|\";", 1, 5, 0, 1, 0);
        faulty("row \"\\\";", 1, 5, 0, 1, 0);
        faulty("row \"a\";mark 0;row\"(((!\";", 1, 22, 2, 1, 3);
    }

    private static void notHere() {
        faulty("rows \"a\";", 2, 0, 0, 0, Check.NONE);
        faulty("ro \"a\";", 2, 0, 0, 0, Check.NONE);
        faulty("how \"a\";", 2, 0, 0, 0, Check.NONE);
        faulty("raw \"a\";", 2, 0, 0, 0, Check.NONE);
        faulty("rot \"a\";", 2, 0, 0, 0, Check.NONE);
        faulty("text 1;", 2, 0, 0, 0, Check.NONE);
        faulty("marks 0;", 2, 0, 0, 0, Check.NONE);
        faulty("mar 0;", 2, 0, 0, 0, Check.NONE);
        faulty(";", 2, 0, 0, 0, Check.NONE);
        faulty("1;", 2, 0, 0, 0, Check.NONE);
        faulty("\"a\";", 2, 0, 0, 0, Check.NONE);
        faulty("row;", 2, 3, 0, 1, Check.NONE);
        faulty("row row;", 2, 4, 0, 1, Check.NONE);
        faulty("row 2 \"a\";", 2, 4, 0, 1, Check.NONE);
        faulty("rep \"a\";", 2, 4, 0, 1, Check.NONE);
        faulty("rep 2;", 2, 5, 0, 2, Check.NONE);
        faulty("rep 2 2 \"a\";", 2, 6, 0, 2, Check.NONE);
        faulty("rep2row\"a\";", 2, 4, 0, 2, Check.NONE);
        faulty("mark;", 2, 4, 0, 1, Check.NONE);
        faulty("mark \"a\";", 2, 5, 0, 1, Check.NONE);
        faulty("mark 1 \"a\";", 2, 7, 0, 2, Check.NONE);
        faulty("row \"a\";;", 2, 8, 1, 0, Check.NONE);
        faulty("row \"a\" row \"b\";", 2, 8, 0, 2, Check.NONE);
        faulty("rep 2 \"a\" 1;", 2, 10, 0, 3, Check.NONE);
    }

    private static void endWithin() {
        faulty("row", 2, 3, 0, 1, Check.NONE);
        faulty("row   ", 2, 6, 0, 1, Check.NONE);
        faulty("rep 2", 2, 5, 0, 2, Check.NONE);
        faulty("row \"a\"", 2, 7, 0, 2, Check.NONE);
        faulty("row \"a\"  ", 2, 9, 0, 2, Check.NONE);
        faulty("row \"a\";rep 1 \"b\"", 2, 17, 1, 3, Check.NONE);
        faulty("mark 0", 2, 6, 0, 2, Check.NONE);
        faulty("row \"", 2, 5, 0, 1, 0);
        faulty("row \"ab", 2, 7, 0, 1, 2);
        faulty("rep 1 \"abc", 2, 10, 0, 2, 3);
    }

    private static void outOfBounds() {
        faulty("rep 0 \"a\";", 3, 4, 0, 1, Check.NONE);
        faulty("rep 00 \"a\";", 3, 4, 0, 1, Check.NONE);
        faulty("rep 10 \"a\";", 3, 4, 0, 1, Check.NONE);
        faulty("rep 99;", 3, 4, 0, 1, Check.NONE);
        faulty("mark 60;", 3, 5, 0, 1, Check.NONE);
        faulty("mark 99;", 3, 5, 0, 1, Check.NONE);
        faulty("row \"a\";mark  77;", 3, 14, 1, 1, Check.NONE);
    }

    private static void tooMany() {
        faulty("row \"" + SIXTY + "a\";", 5, 4, 0, 1, Check.NONE);
        faulty("rep 9 \"abcdefg\";", 5, 6, 0, 2, Check.NONE);
        faulty("row \"" + SIXTY + "\"; row \"\"; row  \"a\";", 5, 81, 2, 1, Check.NONE);
        faulty("rep 9 \"abcdef\";rep 7 \"a\";", 5, 21, 1, 2, Check.NONE);
        faulty("rep 2 \"" + SIXTY + "\"", 5, 6, 0, 2, Check.NONE);
    }

    private static void marks() {
        faulty("mark 0;", 6, 7, Check.NONE, Check.NONE, Check.NONE);
        faulty("row \")\";mark 0;  ", 6, 17, Check.NONE, Check.NONE, Check.NONE);
        faulty("row \"(\";mark 1;", 6, 15, Check.NONE, Check.NONE, Check.NONE);
        faulty("row \"(\";mark 59;", 6, 16, Check.NONE, Check.NONE, Check.NONE);
        faulty("mark 0;mark 60;", 3, 12, 1, 1, Check.NONE);
    }

    private static void firstMet() {
        // a token is read whole before it is looked at whether it can stand there
        faulty("row 123;", 1, 4, 0, 1, Check.NONE);
        faulty("\"a!\";", 1, 2, 0, 0, 1);
        faulty("mark \"a", 2, 7, 0, 1, 1);
        faulty("row \"" + SIXTY + "a!\";", 1, 66, 0, 1, 61);
        faulty("row \"" + SIXTY + "a", 2, 66, 0, 1, 61);
        // what was taken is judged before the next is read
        faulty("row \"" + SIXTY + "a\" !", 5, 4, 0, 1, Check.NONE);
        faulty("rep 10 !", 3, 4, 0, 1, Check.NONE);
        faulty("say !", 2, 0, 0, 0, Check.NONE);
        faulty("row ; !", 2, 4, 0, 1, Check.NONE);
    }

    private static void fullTape() {
        faulty("a".repeat(160), 2, 0, 0, 0, Check.NONE);
        faulty("1".repeat(160), 1, 0, 0, 0, Check.NONE);
        faulty(" ".repeat(159) + "7", 2, 159, 0, 0, Check.NONE);
        faulty("\"" + "(".repeat(159), 2, 160, 0, 0, 159);
        faulty("row\"a\"" + " ".repeat(154), 2, 160, 0, 2, Check.NONE);
        FoldKeeper x = new FoldKeeper();
        Check.due("a full tape of blanks", Check.tell(x, " ".repeat(160)), 0);
        Check.due("a full tape of a line", Check.tell(x, "row\"" + SIXTY + "\"" + " ".repeat(94) + ";"), 60);
        Check.due("a full tape of lines", Check.tell(x, "row\"\";".repeat(26) + "    "), 0);
    }

    private static void reasons() {
        FoldKeeper x = new FoldKeeper();
        Check.due("reason(-1), no fault", x.reason(-1), Check.BAD);
        Check.due("reason(3), no fault", x.reason(3), Check.BAD);
        Check.tell(x, "say");
        Check.due("reason(-1)", x.reason(-1), Check.BAD);
        Check.due("reason(3)", x.reason(3), Check.BAD);
        Check.due("reason(1)", x.reason(1), 0);
        Check.due("insert()", x.insert(0, 'a'), 1);
        Check.due("fault() behind another call", x.fault(), 2);
        Check.tell(x, "row \"a\"; row \"b\"; rep 2 3;");
        Check.due("reason(0) of a third line", x.reason(0), 2);
        Check.due("reason(1) of a third token", x.reason(1), 2);
        Check.tell(x, "!");
        Check.due("reason(0), another text", x.reason(0), 0);
        Check.due("reason(1), another text", x.reason(1), 0);
        Check.tell(x, "row \"ab");
        Check.due("reason(2)", x.reason(2), 2);
        Check.tell(x, "row \"ab\"");
        Check.due("reason(2), no longer in a quote", x.reason(2), Check.NONE);
    }
}
