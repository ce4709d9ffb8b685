import java.lang.reflect.InvocationTargetException;
import java.lang.reflect.Method;
import java.util.HashMap;
import java.util.Map;

/** A FoldKeeper whose calls are counted, since nothing is promised beyond the 512th, and told by their names. */
final class Keeper {
    static final int MAX = Integer.MAX_VALUE;
    static final int MIN = Integer.MIN_VALUE;
    static final int MOST_CALLS = 512;

    private static final Map<String, Method> METHODS = new HashMap<>();

    static {
        for (Method m : FoldKeeper.class.getDeclaredMethods()) {
            METHODS.put(m.getName(), m);
        }
    }

    private final FoldKeeper x = new FoldKeeper();
    private int calls;

    /** One that holds these signs, with no edit to be undone. */
    static Keeper of(String signs, int... marks) {
        StringBuilder text = new StringBuilder("row\"" + signs + "\";");
        for (int i : marks) {
            text.append("mark").append(i).append(';');
        }
        return new Keeper().dueText(signs.length(), text.toString());
    }

    int ask(String name, int... args) {
        calls++;
        if (calls > MOST_CALLS) {
            throw new IllegalStateException("a test uses an object for more calls than are promised");
        }
        Object[] boxed = new Object[args.length];
        for (int i = 0; i < args.length; i++) {
            boxed[i] = args[i];
        }
        try {
            return (Integer) METHODS.get(name).invoke(x, boxed);
        } catch (InvocationTargetException e) {
            throw new IllegalStateException(told(name, args) + " threw", e.getCause());
        } catch (IllegalAccessException e) {
            throw new IllegalStateException(e);
        }
    }

    static String told(String name, int... args) {
        StringBuilder call = new StringBuilder(name).append('(');
        for (int i = 0; i < args.length; i++) {
            call.append(i == 0 ? "" : ", ").append(args[i]);
        }
        return call.append(')').toString();
    }

    int calls() {
        return calls;
    }

    /** Calls without a look at the answer. */
    Keeper does(String name, int... args) {
        ask(name, args);
        return this;
    }

    Keeper due(int want, String name, int... args) {
        Check.due(told(name, args), ask(name, args), want);
        return this;
    }

    Keeper feeds(String bytes) {
        for (int i = 0; i < bytes.length(); i++) {
            ask("feed", bytes.charAt(i));
        }
        return this;
    }

    Keeper dueText(int want, String text) {
        feeds(text);
        Check.due("text() of " + text, ask("text"), want);
        return this;
    }

    /** Answers of sign() by one question, from sign 0 on, and that there are no more signs. */
    Keeper dueOfEach(int what, int... want) {
        for (int i = 0; i < want.length; i++) {
            due(want[i], "sign", i, what);
        }
        return due(Check.BAD, "sign", want.length, what);
    }

    String signs() {
        StringBuilder signs = new StringBuilder();
        int n = ask("rule", 0);
        for (int i = 0; i < n; i++) {
            signs.append((char) ask("sign", i, 0)).append(ask("sign", i, 6) == 1 ? "*" : "");
        }
        return signs.toString();
    }

    /** The signs; one with a mark has a * behind it. */
    Keeper dueSigns(String want) {
        Check.dueTold("the signs", signs(), want);
        return this;
    }

    /** A sheet of these cells. */
    Keeper lays(int k, int lane, int... cells) {
        due(1, "sheet", k, lane, cells.length);
        for (int i = 0; i < cells.length; i++) {
            due(1, "lay", k, i, cells[i]);
        }
        return this;
    }

    Keeper lays(int k, int lane, String cells) {
        return lays(k, lane, cells.chars().toArray());
    }
}
