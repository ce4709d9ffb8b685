import java.util.ArrayList;
import java.util.List;
import java.util.regex.Matcher;
import java.util.regex.Pattern;

/**
 * The document once more, in its plainest words and without regard to speed: every answer is
 * looked for among all candidates. It shares no code with the class that it is held against.
 */
final class PlainModel {
    private static final int BAD = -1, STATE = -2, FULL = -3, NONE = -4;
    private static final String SIGNS = "([{)]}abcdefghijklmnopqrstuvwxyz/";

    private record State(String signs, List<Boolean> marks) {
    }

    private String signs = "";
    private List<Boolean> marks = new ArrayList<>();
    private final StringBuilder tape = new StringBuilder();
    private final List<State> undone = new ArrayList<>();
    private final List<State> done = new ArrayList<>();
    private final State[] images = new State[2];
    private final Object[] sheets = new Object[4];
    private int torn;
    private int fault;
    private final int[] reason = {NONE, NONE, NONE};

    // ---- terms

    private static boolean isSign(int c) {
        return c >= 0 && c < 128 && SIGNS.indexOf((char) c) >= 0;
    }

    private static boolean opens(char c) {
        return "([{".indexOf(c) >= 0;
    }

    private static boolean closes(char c) {
        return ")]}".indexOf(c) >= 0;
    }

    private static int kind(char c) {
        return opens(c) ? "([{".indexOf(c) : ")]}".indexOf(c);
    }

    /** Partners by the brackets of a kind (3: all): a pair is one that closes and the nearest free one ahead. */
    private int[] partners(int kind) {
        int[] partner = new int[signs.length()];
        java.util.Arrays.fill(partner, NONE);
        for (int b = 0; b < signs.length(); b++) {
            char c = signs.charAt(b);
            if (!closes(c) || kind != 3 && kind(c) != kind) {
                continue;
            }
            for (int a = b - 1; a >= 0; a--) {
                char d = signs.charAt(a);
                if (opens(d) && (kind == 3 || kind(d) == kind) && partner[a] == NONE) {
                    partner[a] = b;
                    partner[b] = a;
                    break;
                }
            }
        }
        return partner;
    }

    private int depth(int p) {
        int depth = 0;
        for (char c : signs.substring(0, p).toCharArray()) {
            depth += opens(c) ? 1 : closes(c) ? -1 : 0;
        }
        return depth;
    }

    private int level(int i) {
        int[] partner = partners(3);
        int level = 0;
        for (int a = 0; a < signs.length(); a++) {
            if (a < i && partner[a] > i) {
                level++;
            }
        }
        return level;
    }

    private boolean isFolded(int a) {
        int b = partners(3)[a];
        return b > a && marks.get(a) && signs.substring(a, b).contains("/");
    }

    private boolean isHidden(int i) {
        int[] partner = partners(3);
        for (int a = 0; a < i; a++) {
            if (partner[a] > i && isFolded(a)) {
                return true;
            }
        }
        return false;
    }

    private boolean isBracket(int i) {
        return opens(signs.charAt(i)) || closes(signs.charAt(i));
    }

    private boolean isBare(int i) {
        return isBracket(i) && partners(3)[i] == NONE;
    }

    private boolean clashes(int i) {
        int b = partners(3)[i];
        return b != NONE && kind(signs.charAt(i)) != kind(signs.charAt(b));
    }

    private boolean isWhole(int i, int j, int[] partner) {
        for (int s = i; s < j; s++) {
            if (isBracket(s) && (partner[s] < i || partner[s] >= j)) {
                return false;
            }
        }
        return true;
    }

    private boolean noSign(int i) {
        return i < 0 || i >= signs.length();
    }

    private boolean noPlace(int i) {
        return i < 0 || i > signs.length();
    }

    private boolean noPart(int i, int n) {
        return noSign(i) || n < 1 || (long) i + n > signs.length();
    }

    // ---- the text

    int feed(int c) {
        if (c < 0 || c > 127) {
            return BAD;
        }
        if (tape.length() == 160) {
            return FULL;
        }
        tape.append((char) c);
        return tape.length();
    }

    int end(int n) {
        int had = tape.length();
        if (n < 0 || n > had) {
            return BAD;
        }
        tape.setLength(n);
        return had;
    }

    private static final Pattern TOKEN = Pattern.compile("([a-z]+)|([0-9]+)|(;)|(\"[^\"]*\"?)", Pattern.DOTALL);

    private static final class Stop extends Exception {
        private static final long serialVersionUID = 1;
        final int fault;
        final int place;
        final int inQuote;

        Stop(int fault, int place, int inQuote) {
            this.fault = fault;
            this.place = place;
            this.inQuote = inQuote;
        }
    }

    private String said;
    private int at;
    private int tokenAt;
    private int line;
    private int token;

    /** The next token; an empty text is the end. */
    private String next() throws Stop {
        while (at < said.length() && said.charAt(at) == ' ') {
            at++;
        }
        tokenAt = at;
        if (at == said.length()) {
            return "";
        }
        Matcher m = TOKEN.matcher(said).region(at, said.length());
        if (!m.lookingAt() || m.group(2) != null && m.group(2).length() > 2) {
            throw new Stop(1, at, NONE);
        }
        if (m.group(4) != null) {
            String quote = m.group(4);
            String within = quote.substring(1).replace("\"", "");
            for (int i = 0; i < within.length(); i++) {
                if (!isSign(within.charAt(i))) {
                    throw new Stop(1, at + 1 + i, i);
                }
            }
            if (quote.length() == 1 || !quote.endsWith("\"")) {
                throw new Stop(2, said.length(), within.length());
            }
        }
        at = m.end();
        return m.group();
    }

    private int number(int least, int most) throws Stop {
        String t = next();
        if (!t.matches("[0-9]+")) {
            throw new Stop(2, tokenAt, NONE);
        }
        int n = Integer.parseInt(t);
        if (n < least || n > most) {
            throw new Stop(3, tokenAt, NONE);
        }
        token++;
        return n;
    }

    private String quote(int times, int there) throws Stop {
        String t = next();
        if (!t.startsWith("\"")) {
            throw new Stop(2, tokenAt, NONE);
        }
        String all = t.substring(1, t.length() - 1).repeat(times);
        if (there + all.length() > 60) {
            throw new Stop(5, tokenAt, NONE);
        }
        token++;
        return all;
    }

    private State parse() throws Stop {
        StringBuilder row = new StringBuilder();
        List<Integer> wanted = new ArrayList<>();
        while (true) {
            String name = next();
            if (name.isEmpty()) {
                break;
            }
            if (!name.equals("row") && !name.equals("rep") && !name.equals("mark")) {
                throw new Stop(2, tokenAt, NONE);
            }
            token++;
            if (name.equals("mark")) {
                wanted.add(number(0, 59));
            } else {
                int times = name.equals("rep") ? number(1, 9) : 1;
                row.append(quote(times, row.length()));
            }
            if (!next().equals(";")) {
                throw new Stop(2, tokenAt, NONE);
            }
            line++;
            token = 0;
        }
        List<Boolean> marked = new ArrayList<>();
        for (int i = 0; i < row.length(); i++) {
            marked.add(wanted.contains(i));
        }
        for (int i : wanted) {
            if (i >= row.length() || !opens(row.charAt(i))) {
                throw new Stop(6, said.length(), NONE);
            }
        }
        return new State(row.toString(), marked);
    }

    int text() {
        said = tape.toString();
        tape.setLength(0);
        at = 0;
        line = 0;
        token = 0;
        try {
            become(parse());
        } catch (Stop stop) {
            fault = stop.fault;
            reason[0] = fault == 6 ? NONE : line;
            reason[1] = fault == 6 ? NONE : token;
            reason[2] = stop.inQuote;
            return -10 - stop.place;
        }
        fault = 0;
        java.util.Arrays.fill(reason, NONE);
        images[0] = null;
        images[1] = null;
        done.clear();
        undone.clear();
        return signs.length();
    }

    int fault() {
        return fault;
    }

    int reason(int what) {
        return what < 0 || what > 2 ? BAD : reason[what];
    }

    int rule(int what) {
        int n = signs.length();
        int sum = 0;
        switch (what) {
            case 0:
                return n;
            case 1:
                return signs.replaceAll("[^/]", "").length() + 1;
            case 8:
                return done.size();
            case 9:
                return undone.size();
            case 10:
                for (int i = 0; i < n; i++) {
                    sum = Math.max(sum, level(i));
                }
                return sum;
            default:
                if (what < 0 || what > 10) {
                    return BAD;
                }
        }
        for (int i = 0; i < n; i++) {
            boolean first = partners(3)[i] > i;
            boolean[] is = {false, false, first, isBare(i), first && clashes(i), isFolded(i), isHidden(i), marks.get(i)};
            sum += is[what] ? 1 : 0;
        }
        return sum;
    }

    int sign(int i, int what) {
        if (noSign(i) || what < 0 || what > 8) {
            return BAD;
        }
        char c = signs.charAt(i);
        int alone = isBracket(i) ? partners(kind(c))[i] : NONE;
        String ahead = signs.substring(0, i);
        int[] answers = {c, depth(i), level(i), partners(3)[i], alone, clashes(i) ? 1 : 0, marks.get(i) ? 1 : 0,
            isHidden(i) ? 1 : 0, ahead.length() - ahead.replace("/", "").length()};
        return answers[what];
    }

    // ---- brackets

    int low(int i, int j) {
        if (noPlace(i) || noPlace(j) || j < i) {
            return BAD;
        }
        int least = Integer.MAX_VALUE;
        for (int p = i; p <= j; p++) {
            least = Math.min(least, depth(p));
        }
        return least;
    }

    int around(int i, int kind) {
        if (noSign(i) || kind < 0 || kind > 3) {
            return BAD;
        }
        int[] partner = partners(kind);
        int best = NONE;
        for (int a = 0; a < i; a++) {
            if (partner[a] > i && (best == NONE || partner[a] - a < partner[best] - best)) {
                best = a;
            }
        }
        return best;
    }

    int whole(int i) {
        if (noPlace(i)) {
            return BAD;
        }
        int[] partner = partners(3);
        int best = i;
        for (int j = i; j <= signs.length(); j++) {
            if (isWhole(i, j, partner)) {
                best = j;
            }
        }
        return best;
    }

    int bare(int i, int what) {
        if (noPlace(i) || what < 0 || what > 1) {
            return BAD;
        }
        int best = NONE;
        for (int s = 0; s < signs.length(); s++) {
            if (isBare(s) && (what == 0 ? s >= i && best == NONE : s < i)) {
                best = s;
            }
        }
        return best;
    }

    int longest(int what) {
        if (what < 0 || what > 1) {
            return BAD;
        }
        int[] partner = partners(3);
        for (int length = signs.length(); length >= 0; length--) {
            for (int i = 0; i + length <= signs.length(); i++) {
                if (isWhole(i, i + length, partner)) {
                    return what == 0 ? i : length;
                }
            }
        }
        throw new IllegalStateException("a part of no signs is whole");
    }

    int seen(int k) {
        if (k < 0) {
            return BAD;
        }
        List<Integer> all = new ArrayList<>();
        for (int i = 0; i < signs.length(); i++) {
            if (!isHidden(i)) {
                all.add(i);
            }
        }
        return k < all.size() ? all.get(k) : NONE;
    }

    // ---- edits

    private State now() {
        return new State(signs, new ArrayList<>(marks));
    }

    private void become(State state) {
        signs = state.signs;
        marks = new ArrayList<>(state.marks);
    }

    private void ahead() {
        done.add(now());
        if (done.size() > 20) {
            done.remove(0);
        }
        undone.clear();
    }

    private void bringIn(int i, int c, boolean mark) {
        signs = signs.substring(0, i) + (char) c + signs.substring(i);
        marks.add(i, mark);
    }

    private boolean takeOut(int i) {
        signs = signs.substring(0, i) + signs.substring(i + 1);
        return marks.remove(i);
    }

    int put(int i, int c) {
        if (noSign(i) || !isSign(c)) {
            return BAD;
        }
        ahead();
        int was = signs.charAt(i);
        takeOut(i);
        bringIn(i, c, false);
        return was;
    }

    int insert(int i, int c) {
        if (noPlace(i) || !isSign(c)) {
            return BAD;
        }
        if (signs.length() == 60) {
            return FULL;
        }
        ahead();
        bringIn(i, c, false);
        return signs.length();
    }

    int drop(int i, int n) {
        if (noPart(i, n)) {
            return BAD;
        }
        ahead();
        for (int t = 0; t < n; t++) {
            takeOut(i);
        }
        return signs.length();
    }

    int move(int i, int n, int j) {
        if (noPart(i, n) || noPlace(j) || j > i && j < i + n) {
            return BAD;
        }
        ahead();
        for (int t = 0; t < n; t++) {
            int from = j <= i ? i + t : i;
            int c = signs.charAt(from);
            boolean mark = takeOut(from);
            bringIn(j <= i ? j + t : j - 1, c, mark);
        }
        return 1;
    }

    int copy(int i, int n, int j) {
        if (noPart(i, n) || noPlace(j)) {
            return BAD;
        }
        if (signs.length() + n > 60) {
            return FULL;
        }
        ahead();
        State was = now();
        for (int t = 0; t < n; t++) {
            bringIn(j + t, was.signs.charAt(i + t), was.marks.get(i + t));
        }
        return signs.length();
    }

    int turn(int i, int n) {
        if (noPart(i, n)) {
            return BAD;
        }
        ahead();
        String was = signs.substring(i, i + n);
        int brackets = 0;
        for (int t = 0; t < n; t++) {
            char c = was.charAt(n - 1 - t);
            int of = "([{)]}".indexOf(c);
            brackets += of >= 0 ? 1 : 0;
            takeOut(i + t);
            bringIn(i + t, of >= 0 ? ")]}([{".charAt(of) : c, false);
        }
        return brackets;
    }

    int mark(int i, int on) {
        if (noSign(i) || on < 0 || on > 1 || !opens(signs.charAt(i))) {
            return BAD;
        }
        ahead();
        return marks.set(i, on == 1) ? 1 : 0;
    }

    int grow(int seed, int n) {
        if (n < 1 || n > 30) {
            return BAD;
        }
        ahead();
        long state = seed;
        int came = 0;
        for (int t = 0; t < n && signs.length() < 60; t++) {
            state = (int) (state * 1103515245L + 12345L);
            int got = (int) ((state & 0x7fff0000L) / 0x10000L);
            bringIn(got % (signs.length() + 1), "()[]{}az/".charAt(got / 64 % 9), false);
            came++;
        }
        return came;
    }

    int undo() {
        if (done.isEmpty()) {
            return STATE;
        }
        undone.add(now());
        become(done.remove(done.size() - 1));
        return signs.length();
    }

    int redo() {
        if (undone.isEmpty()) {
            return STATE;
        }
        done.add(now());
        become(undone.remove(undone.size() - 1));
        return signs.length();
    }

    // ---- images, sheets

    int keep(int k) {
        if (k < 0 || k > 1) {
            return BAD;
        }
        int had = images[k] == null ? 0 : 1;
        images[k] = now();
        return had;
    }

    int back(int k) {
        if (k < 0 || k > 1) {
            return BAD;
        }
        if (images[k] == null) {
            return STATE;
        }
        become(images[k]);
        done.clear();
        undone.clear();
        return signs.length();
    }

    int sheet(int k, int lane, int n) {
        if (k < 0 || k > 3 || lane < 0 || lane > 2 || n > 40) {
            return BAD;
        }
        try {
            sheets[k] = lane == 0 ? new byte[n] : lane == 1 ? new short[n] : new int[n];
        } catch (NegativeArraySizeException e) {
            return -14;
        }
        return 1;
    }

    int lay(int k, int i, int v) {
        if (k < 0 || k > 3) {
            return BAD;
        }
        try {
            if (sheets[k] instanceof byte[] cells) {
                cells[i] = (byte) v;
            } else if (sheets[k] instanceof short[] cells) {
                cells[i] = (short) v;
            } else {
                ((int[]) sheets[k])[i] = v;
            }
        } catch (NullPointerException e) {
            return -11;
        } catch (ArrayIndexOutOfBoundsException e) {
            return -12;
        }
        return 1;
    }

    /** Here the machine itself finds the faults, so that their order is the machine's. */
    private int cell(int k, int lane, int i) {
        if (lane == 0) {
            return ((byte[]) sheets[k])[i];
        }
        if (lane == 1) {
            return ((short[]) sheets[k])[i];
        }
        return ((int[]) sheets[k])[i];
    }

    int read(int k, int lane, int f, int n) {
        if (k < 0 || k > 3 || lane < 0 || lane > 2 || n < 0 || n > 40) {
            return BAD;
        }
        State was = now();
        int found = 0;
        int came = 0;
        try {
            while (came < n) {
                int c = cell(k, lane, f + came);
                if (!isSign(c) || signs.length() == 60) {
                    become(was);
                    return -20 - came;
                }
                bringIn(signs.length(), c, false);
                came++;
            }
        } catch (NullPointerException e) {
            found = 1;
        } catch (ArrayIndexOutOfBoundsException e) {
            found = 2;
        } catch (ClassCastException e) {
            found = 3;
        }
        State behind = now();
        become(was);
        ahead();
        become(behind);
        torn = found;
        return came;
    }

    int torn() {
        return torn;
    }

    int count(int what) {
        int opening = 0;
        int closing = 0;
        for (char c : signs.toCharArray()) {
            opening += opens(c) ? 1 : 0;
            closing += closes(c) ? 1 : 0;
        }
        int cells = sheets[0] == null ? NONE : java.lang.reflect.Array.getLength(sheets[0]);
        int[] answers = {(images[0] == null ? 0 : 1) + (images[1] == null ? 0 : 1), tape.length(), cells, opening, closing};
        return what < 0 || what > 4 ? BAD : answers[what];
    }
}
