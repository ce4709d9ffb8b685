import java.util.Random;

/** Promises 1 to 31: runs of calls by a seed, each answer held against that of the plain model. */
public final class ModelTest {
    private static final int RUNS = 1500;
    private static final int CALLS = 512;
    private static final int[] EXTREME = {-1, -2, Integer.MIN_VALUE, Integer.MAX_VALUE, 60, 61, 127, 128, 160, 256, Integer.MAX_VALUE - 1};
    private static final String SOME_SIGNS = "([{)]}(((()))az//";

    private final Random random;
    private final int run;
    private FoldKeeper x;
    private PlainModel model;
    private int calls;

    private ModelTest(int run) {
        this.run = run;
        random = new Random(run);
    }

    public static void main(String[] args) {
        for (int run = 0; run < RUNS; run++) {
            new ModelTest(run).go();
        }
        Check.close();
    }

    private void go() {
        x = new FoldKeeper();
        model = new PlainModel();
        while (calls < CALLS) {
            int act = random.nextInt(100);
            if (act < 4) {
                tellText();
            } else if (act < 50) {
                edit(random.nextInt(12));
            } else if (act < 55) {
                imagesAndSheets(random.nextInt(5));
            } else {
                ask(random.nextInt(14));
            }
        }
    }

    private void due(String call, int got, int want) {
        calls++;
        if (calls <= CALLS) {
            Check.due("run " + run + ", call " + calls + ": " + call, got, want);
        }
    }

    /** A number below n, now and then one that is far from it. */
    private int below(int n) {
        if (random.nextInt(25) == 0) {
            return EXTREME[random.nextInt(EXTREME.length)];
        }
        return random.nextInt(Math.max(1, n));
    }

    private int someSign() {
        return random.nextInt(20) == 0 ? random.nextInt(300) - 50 : SOME_SIGNS.charAt(random.nextInt(SOME_SIGNS.length()));
    }

    private int size() {
        return model.rule(0);
    }

    private String someQuote() {
        StringBuilder quote = new StringBuilder("\"");
        int n = random.nextInt(random.nextInt(8) == 0 ? 62 : 12);
        for (int i = 0; i < n; i++) {
            quote.append(SOME_SIGNS.charAt(random.nextInt(SOME_SIGNS.length())));
        }
        return quote.append('"').toString();
    }

    private String someBlanks() {
        return " ".repeat(random.nextInt(4) == 0 ? random.nextInt(3) : 0);
    }

    private String someText() {
        StringBuilder text = new StringBuilder(someBlanks());
        int lines = random.nextInt(5);
        for (int i = 0; i < lines; i++) {
            switch (random.nextInt(3)) {
                case 0:
                    text.append("row").append(someBlanks()).append(someQuote());
                    break;
                case 1:
                    text.append("rep").append(someBlanks()).append(random.nextInt(12) == 0 ? random.nextInt(120) : 1 + random.nextInt(4));
                    text.append(someBlanks()).append(someQuote());
                    break;
                default:
                    text.append("mark").append(someBlanks()).append(random.nextInt(15) == 0 ? random.nextInt(120) : random.nextInt(4));
                    break;
            }
            text.append(someBlanks()).append(';').append(someBlanks());
        }
        int spoilt = random.nextInt(3) == 0 ? 1 + random.nextInt(2) : 0;
        for (int i = 0; i < spoilt && text.length() > 0; i++) {
            int at = random.nextInt(text.length());
            switch (random.nextInt(3)) {
                case 0:
                    text.deleteCharAt(at);
                    break;
                case 1:
                    text.insert(at, "\"; 7arow!(Z".charAt(random.nextInt(11)));
                    break;
                default:
                    text.setCharAt(at, (char) random.nextInt(128));
                    break;
            }
        }
        return text.toString();
    }

    private void tellText() {
        String text = random.nextInt(3) == 0 ? pickedTokens() : someText();
        for (int i = 0; i < text.length(); i++) {
            due("feed(" + (int) text.charAt(i) + ")", x.feed(text.charAt(i)), model.feed(text.charAt(i)));
        }
        if (random.nextInt(8) == 0) {
            int n = below(text.length() + 2);
            due("end(" + n + ")", x.end(n), model.end(n));
        }
        due("text() of " + text, x.text(), model.text());
        due("fault()", x.fault(), model.fault());
        for (int what = 0; what < 3; what++) {
            due("reason(" + what + ")", x.reason(what), model.reason(what));
        }
    }

    /** Tokens in no order at all, most of which can not stand where they are. */
    private String pickedTokens() {
        String[] tokens = {"row", "rep", "mark", ";", "3", "0", "12", "123", "\"(a)\"", "\"\"", "\"", "!", "say", " ", "row\"(/)\";"};
        StringBuilder text = new StringBuilder();
        int n = random.nextInt(9);
        for (int i = 0; i < n; i++) {
            text.append(tokens[random.nextInt(tokens.length)]).append(random.nextBoolean() ? " " : "");
        }
        return text.toString();
    }

    private void edit(int which) {
        int i = below(size() + 1);
        int n = below(1 + random.nextInt(12));
        int j = below(size() + 1);
        int c = someSign();
        switch (which) {
            case 0:
                due("put(" + i + ", " + c + ")", x.put(i, c), model.put(i, c));
                break;
            case 1:
            case 2:
                due("insert(" + i + ", " + c + ")", x.insert(i, c), model.insert(i, c));
                break;
            case 3:
                due("drop(" + i + ", " + n + ")", x.drop(i, n), model.drop(i, n));
                break;
            case 4:
                due("move(" + i + ", " + n + ", " + j + ")", x.move(i, n, j), model.move(i, n, j));
                break;
            case 5:
                due("copy(" + i + ", " + n + ", " + j + ")", x.copy(i, n, j), model.copy(i, n, j));
                break;
            case 6:
                due("turn(" + i + ", " + n + ")", x.turn(i, n), model.turn(i, n));
                break;
            case 7:
            case 8:
                int on = below(2);
                due("mark(" + i + ", " + on + ")", x.mark(i, on), model.mark(i, on));
                break;
            case 9:
                int seed = random.nextInt();
                due("grow(" + seed + ", " + n + ")", x.grow(seed, n), model.grow(seed, n));
                break;
            case 10:
                int back = random.nextInt(25) == 0 ? 22 : 1 + random.nextInt(2);
                for (int t = 0; t < back; t++) {
                    due("undo()", x.undo(), model.undo());
                }
                break;
            default:
                due("redo()", x.redo(), model.redo());
                break;
        }
    }

    private void imagesAndSheets(int which) {
        int k = below(4);
        int lane = below(3);
        switch (which) {
            case 0:
                int image = below(2);
                due("keep(" + image + ")", x.keep(image), model.keep(image));
                break;
            case 1:
                int from = below(2);
                due("back(" + from + ")", x.back(from), model.back(from));
                break;
            case 2:
                newSheet(k, lane);
                break;
            default:
                int f = below(6) - random.nextInt(2);
                int n = below(8);
                due("read(" + k + ", " + lane + ", " + f + ", " + n + ")", x.read(k, lane, f, n), model.read(k, lane, f, n));
                due("torn()", x.torn(), model.torn());
                break;
        }
    }

    private void newSheet(int k, int lane) {
        int n = below(12);
        due("sheet(" + k + ", " + lane + ", " + n + ")", x.sheet(k, lane, n), model.sheet(k, lane, n));
        for (int i = 0; i < n && i <= 12; i++) {
            int v = someSign() + (random.nextInt(6) == 0 ? random.nextInt() << 8 : 0);
            due("lay(" + k + ", " + i + ", " + v + ")", x.lay(k, i, v), model.lay(k, i, v));
        }
        int i = below(13);
        due("lay(" + k + ", " + i + ", 97)", x.lay(k, i, 97), model.lay(k, i, 97));
    }

    private void ask(int which) {
        int i = below(size() + 1);
        int j = below(size() + 1);
        switch (which) {
            case 0:
            case 1:
            case 2:
                int rule = below(11);
                due("rule(" + rule + ")", x.rule(rule), model.rule(rule));
                break;
            case 3:
            case 4:
            case 5:
            case 6:
                int what = below(9);
                due("sign(" + i + ", " + what + ")", x.sign(i, what), model.sign(i, what));
                break;
            case 7:
                due("low(" + i + ", " + j + ")", x.low(i, j), model.low(i, j));
                break;
            case 8:
                int kind = below(4);
                due("around(" + i + ", " + kind + ")", x.around(i, kind), model.around(i, kind));
                break;
            case 9:
                due("whole(" + i + ")", x.whole(i), model.whole(i));
                break;
            case 10:
                int side = below(2);
                due("bare(" + i + ", " + side + ")", x.bare(i, side), model.bare(i, side));
                break;
            case 11:
                int part = below(2);
                due("longest(" + part + ")", x.longest(part), model.longest(part));
                break;
            case 12:
                due("seen(" + i + ")", x.seen(i), model.seen(i));
                break;
            default:
                int count = below(5);
                due("count(" + count + ")", x.count(count), model.count(count));
                break;
        }
    }
}
