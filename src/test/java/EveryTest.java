import java.lang.reflect.Method;
import java.util.HashMap;
import java.util.Map;

/** Promises 1 to 26: every row of few signs, every edit by small numbers, every text of few tokens, held against the plain model. */
public final class EveryTest {
    private static final String SIGNS = "([{)]}a/";
    private static final int MOST_SIGNS = 4;
    private static final int[] NUMBERS = {Integer.MIN_VALUE, -1, 0, 1, 2, 3, 4, 5, 6, 60, Integer.MAX_VALUE};
    private static final String[] TOKENS = {"row", "rep", "mark", "say", ";", "0", "9", "60", "100", "\"(/)\"", "\"\"", "\"a!", "\"(", "?",
        "\"aaaaaaaaaaaaaaaaaaaaaaaaaaaaaaa\""};
    private static final int MOST_TOKENS = 4;
    private static final Map<String, Method> PLAIN = new HashMap<>();

    static {
        for (Method m : PlainModel.class.getDeclaredMethods()) {
            if (m.getReturnType() == int.class) {
                PLAIN.put(m.getName() + m.getParameterCount(), m);
            }
        }
    }

    private Keeper x = new Keeper();
    private PlainModel model = new PlainModel();

    public static void main(String[] args) throws ReflectiveOperationException {
        rows("");
        edits();
        texts("", 0);
        Check.close();
    }

    private void same(String name, int... args) throws ReflectiveOperationException {
        Object[] boxed = new Object[args.length];
        for (int i = 0; i < args.length; i++) {
            boxed[i] = args[i];
        }
        int want = (Integer) PLAIN.get(name + args.length).invoke(model, boxed);
        int got = x.ask(name, args);
        Check.due(Keeper.told(name, args), got, want);
    }

    private void tell(String text) throws ReflectiveOperationException {
        Check.within(text);
        for (int i = 0; i < text.length(); i++) {
            same("feed", text.charAt(i));
        }
        same("text");
    }

    /** All rows that begin with these signs, each without marks and with all that it can have. */
    private static void rows(String signs) throws ReflectiveOperationException {
        StringBuilder marks = new StringBuilder();
        for (int i = 0; i < signs.length(); i++) {
            marks.append("([{".indexOf(signs.charAt(i)) >= 0 ? "mark " + i + ";" : "");
        }
        askAll("row\"" + signs + "\";", signs.length());
        askAll("row\"" + signs + "\";" + marks, signs.length());
        for (int c = 0; signs.length() < MOST_SIGNS && c < SIGNS.length(); c++) {
            rows(signs + SIGNS.charAt(c));
        }
    }

    private static void askAll(String text, int n) throws ReflectiveOperationException {
        EveryTest one = new EveryTest();
        one.tell(text);
        for (int what = -1; what <= 11; what++) {
            one.same("rule", what);
            one.same("count", what);
            one.same("longest", what);
            one.same("seen", what);
        }
        for (int i = -1; i <= n + 1; i++) {
            one.same("whole", i);
            for (int what = -1; what <= 9; what++) {
                one.same("sign", i, what);
            }
            for (int j = -1; j <= n + 1; j++) {
                one.same("low", i, j);
                one.same("around", i, j);
                one.same("bare", i, j);
            }
        }
    }

    private static void edits() throws ReflectiveOperationException {
        String[] three = {"move", "copy", "sheet", "lay"};
        String[] two = {"put", "insert", "drop", "turn", "mark", "grow"};
        for (int i : NUMBERS) {
            for (int n : NUMBERS) {
                for (String name : two) {
                    edit(name, i, n);
                }
                edit("put", i, SIGNS.charAt(n & 7));
                edit("insert", i, SIGNS.charAt(n & 7));
                for (int j : NUMBERS) {
                    for (String name : three) {
                        edit(name, i, n, j);
                    }
                }
            }
            edit("keep", i);
            edit("back", i);
        }
        edit("undo");
        edit("redo");
    }

    /** One edit amid others: all signs behind it, then with it undone, done again, and others undone. */
    private static void edit(String name, int... args) throws ReflectiveOperationException {
        EveryTest one = new EveryTest();
        one.tell("row\"a(/)[\";mark 1;mark 4;");
        one.same("keep", 0);
        one.same("put", 0, 'b');
        one.same("put", 0, 'c');
        one.same("undo");
        Check.within(Keeper.told(name, args));
        one.same(name, args);
        one.allSigns();
        one.same("redo");
        one.same("undo");
        one.same("undo");
        one.allSigns();
        one.same("redo");
        one.allSigns();
        one.same("read", 0, 0, 0, 1);
        one.same("torn");
        one.same("back", 0);
        one.allSigns();
    }

    private void allSigns() throws ReflectiveOperationException {
        for (int what = 0; what <= 10; what++) {
            same("rule", what);
        }
        int n = model.rule(0);
        for (int i = 0; i < n && i < 12; i++) {
            same("sign", i, 0);
            same("sign", i, 3);
            same("sign", i, 6);
            same("sign", i, 7);
        }
    }

    /** All texts that begin with this one, with a blank behind each token and without. */
    private static void texts(String ahead, int tokens) throws ReflectiveOperationException {
        EveryTest one = new EveryTest();
        one.tell(ahead);
        one.same("fault");
        for (int what = 0; what < 3; what++) {
            one.same("reason", what);
        }
        one.same("rule", 0);
        one.same("rule", 7);
        for (int t = 0; tokens < MOST_TOKENS && t < TOKENS.length; t++) {
            texts(ahead + TOKENS[t], tokens + 1);
            if (tokens + 1 < MOST_TOKENS) {
                texts(ahead + TOKENS[t] + " ", tokens + 1);
            }
        }
    }
}
