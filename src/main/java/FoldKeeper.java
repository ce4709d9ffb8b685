/**
 * Rows of signs with brackets of three kinds, kept under edits.
 *
 * Every row that a call needs is made with the object and used again, so that no call makes an
 * object. Words in capitals in the comments are those of the document's terms.
 */
public final class FoldKeeper {
    public static final int BAD = -1, STATE = -2, FULL = -3, NONE = -4;

    private static final int MOST_SIGNS = 60;
    private static final int MOST_BYTES = 160;
    private static final int MOST_EDITS = 20;
    private static final int MOST_GROWN = 30;
    private static final int MOST_CELLS = 40;
    private static final int IMAGES = 2;
    private static final int SHEETS = 4;
    private static final int LANES = 3;
    private static final int KINDS = 3;
    /** Stands where a KIND may be asked for: brackets of all KINDS together. */
    private static final int ALL = 3;

    /** Answers that tell a FAULT are this less the FAULT or its place. */
    private static final int FAULTY = -10;
    /** Answers that tell which SIGN was refused are this less its number. */
    private static final int REFUSED = -20;

    private static final int GROWN_BYTES = 9;
    private static final char[] GROWN = {'(', ')', '[', ']', '{', '}', 'a', 'z', '/'};

    private final TextReader reader;
    private final Tape tape;
    private final Brackets brackets;
    private final Row row;
    private final History history;
    private final Row[] images;
    private final boolean[] kept;
    private final Sheet[] sheets;
    private int tornBy;

    public FoldKeeper() {
        reader = new TextReader();
        tape = reader.tape;
        brackets = new Brackets();
        row = brackets.row;
        history = new History();
        images = new Row[IMAGES];
        for (int k = 0; k < IMAGES; k++) {
            images[k] = new Row();
        }
        kept = new boolean[IMAGES];
        sheets = new Sheet[SHEETS];
        for (int k = 0; k < SHEETS; k++) {
            sheets[k] = new Sheet();
        }
    }

    // ---- the text, what there is

    public int feed(int c) {
        if (c < 0 || c > 127) {
            return BAD;
        }
        if (tape.length >= MOST_BYTES) {
            return FULL;
        }
        tape.append(c);
        return tape.length;
    }

    public int end(int n) {
        if (n < 0 || n > tape.length) {
            return BAD;
        }
        int had = tape.length;
        tape.shorten(n);
        return had;
    }

    public int text() {
        boolean taken = reader.takeText();
        tape.shorten(0);
        if (!taken) {
            return FAULTY - reader.blame.place;
        }
        row.become(reader.draft);
        for (int k = 0; k < IMAGES; k++) {
            kept[k] = false;
        }
        return startedAnew();
    }

    public int fault() {
        return reader.blame.fault;
    }

    public int reason(int what) {
        if (what < 0 || what > 2) {
            return BAD;
        }
        return reader.blame.part(what);
    }

    public int rule(int what) {
        switch (what) {
            case 0:
                return row.size;
            case 1:
                return brackets.slashes[row.size] + 1;
            case Brackets.PAIRS:
            case Brackets.BARE_SIGNS:
            case Brackets.CLASHES:
            case Brackets.FOLDS:
            case Brackets.HIDDEN_SIGNS:
            case Brackets.MARKS:
                return brackets.tally(what);
            case 8:
                return history.past;
            case 9:
                return history.ahead;
            case 10:
                return brackets.greatestLevel();
            default:
                return BAD;
        }
    }

    public int sign(int i, int what) {
        if (!row.hasSign(i)) {
            return BAD;
        }
        switch (what) {
            case 0:
                return row.byteAt(i);
            case 1:
                return brackets.depths[i];
            case 2:
                return brackets.levels[i];
            case 3:
                return brackets.partners[i];
            case 4:
                return brackets.partnersAlone[i];
            case 5:
                return oneIf(brackets.clashes(i));
            case 6:
                return oneIf(row.markedAt(i));
            case 7:
                return oneIf(brackets.hidden[i]);
            case 8:
                return brackets.slashes[i];
            default:
                return BAD;
        }
    }

    // ---- brackets

    public int low(int i, int j) {
        if (!row.hasPlace(i) || !row.hasPlace(j) || j < i) {
            return BAD;
        }
        return brackets.leastDepth(i, j);
    }

    public int around(int i, int kind) {
        if (!row.hasSign(i) || kind < 0 || kind > ALL) {
            return BAD;
        }
        return brackets.innermostAround(i, kind);
    }

    public int whole(int i) {
        if (!row.hasPlace(i)) {
            return BAD;
        }
        return brackets.wholeTill(i);
    }

    public int bare(int i, int what) {
        if (!row.hasPlace(i)) {
            return BAD;
        }
        switch (what) {
            case 0:
                return brackets.nextBare(i);
            case 1:
                return brackets.lastBare(i);
            default:
                return BAD;
        }
    }

    public int longest(int what) {
        if (what < 0 || what > 1) {
            return BAD;
        }
        int first = brackets.longestFrom();
        return what == 0 ? first : brackets.wholeTill(first) - first;
    }

    public int seen(int k) {
        if (k < 0) {
            return BAD;
        }
        return brackets.seenAt(k);
    }

    // ---- edits

    public int put(int i, int c) {
        if (!row.hasSign(i) || !Signs.isSign(c)) {
            return BAD;
        }
        int was = row.byteAt(i);
        row.setByte(i, c);
        return edited(was);
    }

    public int insert(int i, int c) {
        if (!row.hasPlace(i) || !Signs.isSign(c)) {
            return BAD;
        }
        if (row.room() < 1) {
            return FULL;
        }
        row.bringIn(i, c);
        return edited(row.size);
    }

    public int drop(int i, int n) {
        if (!row.hasPart(i, n)) {
            return BAD;
        }
        row.takeOut(i, n);
        return edited(row.size);
    }

    public int move(int i, int n, int j) {
        if (!row.hasPart(i, n) || !row.hasPlace(j) || j > i && j < i + n) {
            return BAD;
        }
        row.shift(i, n, j);
        return edited(1);
    }

    public int copy(int i, int n, int j) {
        if (!row.hasPart(i, n) || !row.hasPlace(j)) {
            return BAD;
        }
        if (row.room() < n) {
            return FULL;
        }
        row.repeat(i, n, j);
        return edited(row.size);
    }

    public int turn(int i, int n) {
        if (!row.hasPart(i, n)) {
            return BAD;
        }
        return edited(row.turnAbout(i, n));
    }

    public int mark(int i, int on) {
        if (!row.hasSign(i) || on < 0 || on > 1 || !Signs.opens(row.byteAt(i))) {
            return BAD;
        }
        int had = oneIf(row.markedAt(i));
        row.setMark(i, on == 1);
        return edited(had);
    }

    public int grow(int seed, int n) {
        if (n < 1 || n > MOST_GROWN) {
            return BAD;
        }
        int came = 0;
        int state = seed;
        while (came < n && row.room() > 0) {
            state = state * 1103515245 + 12345;
            int got = state >> 16 & 32767;
            row.bringIn(got % (row.size + 1), GROWN[got / 64 % GROWN_BYTES]);
            came++;
        }
        return edited(came);
    }

    public int undo() {
        if (history.past < 1) {
            return STATE;
        }
        row.become(history.stepBack());
        brackets.survey();
        return row.size;
    }

    public int redo() {
        if (history.ahead < 1) {
            return STATE;
        }
        row.become(history.stepOn());
        brackets.survey();
        return row.size;
    }

    // ---- images, sheets

    public int keep(int k) {
        if (k < 0 || k >= IMAGES) {
            return BAD;
        }
        int had = oneIf(kept[k]);
        images[k].become(row);
        kept[k] = true;
        return had;
    }

    public int back(int k) {
        if (k < 0 || k >= IMAGES) {
            return BAD;
        }
        if (!kept[k]) {
            return STATE;
        }
        row.become(images[k]);
        return startedAnew();
    }

    public int sheet(int k, int lane, int n) {
        if (!hasSheet(k) || !isLane(lane) || n > MOST_CELLS) {
            return BAD;
        }
        if (n < 0) {
            return FAULTY - Sheet.SIZE;
        }
        sheets[k].makeNew(lane, n);
        return 1;
    }

    public int lay(int k, int i, int v) {
        if (!hasSheet(k)) {
            return BAD;
        }
        int found = sheets[k].faultAt(sheets[k].lane, i);
        if (found != 0) {
            return FAULTY - found;
        }
        sheets[k].setCell(i, v);
        return 1;
    }

    public int read(int k, int lane, int f, int n) {
        if (!hasSheet(k) || !isLane(lane) || n < 0 || n > MOST_CELLS) {
            return BAD;
        }
        Sheet from = sheets[k];
        int found = 0;
        int came = 0;
        while (came < n && found == 0) {
            found = from.faultAt(lane, f + came);
            if (found == 0) {
                // looked at before any comes, so that one that is refused leaves all as it was
                if (!Signs.isSign(from.cells[f + came]) || row.room() <= came) {
                    return REFUSED - came;
                }
                came++;
            }
        }
        for (int i = 0; i < came; i++) {
            row.bringIn(row.size, from.cells[f + i]);
        }
        tornBy = found;
        return edited(came);
    }

    public int torn() {
        return tornBy;
    }

    public int count(int what) {
        switch (what) {
            case 0:
                return oneIf(kept[0]) + oneIf(kept[1]);
            case 1:
                return tape.length;
            case 2:
                return sheets[0].there ? sheets[0].size : NONE;
            case 3:
                return row.openingSigns();
            case 4:
                return row.closingSigns();
            default:
                return BAD;
        }
    }

    // ---- what the calls share

    private int edited(int answer) {
        history.add(row);
        brackets.survey();
        return answer;
    }

    private int startedAnew() {
        history.restart(row);
        brackets.survey();
        return row.size;
    }

    private static boolean hasSheet(int k) {
        return k >= 0 && k < SHEETS;
    }

    private static boolean isLane(int lane) {
        return lane >= 0 && lane < LANES;
    }

    private static int oneIf(boolean is) {
        return is ? 1 : 0;
    }

    /** What a byte is among the SIGNS. */
    private static final class Signs {
        static boolean isSign(int c) {
            return isBracket(c) || isLetter(c) || c == '/';
        }

        static boolean isLetter(int c) {
            return c >= 'a' && c <= 'z';
        }

        static boolean isBracket(int c) {
            return opens(c) || closes(c);
        }

        static boolean opens(int c) {
            return c == '(' || c == '[' || c == '{';
        }

        static boolean closes(int c) {
            return c == ')' || c == ']' || c == '}';
        }

        static int kindOf(int c) {
            switch (c) {
                case '(':
                case ')':
                    return 0;
                case '[':
                case ']':
                    return 1;
                case '{':
                case '}':
                    return 2;
                default:
                    return NONE;
            }
        }

        static int turned(int c) {
            switch (c) {
                case '(':
                    return ')';
                case ')':
                    return '(';
                case '[':
                    return ']';
                case ']':
                    return '[';
                case '{':
                    return '}';
                case '}':
                    return '{';
                default:
                    return c;
            }
        }
    }

    /** SIGNS with their MARKS. Who calls looks first whether SIGNS, places and room are there. */
    private static final class Row {
        /** A bit above those of a byte, so that a MARK goes wherever its SIGN goes. */
        private static final int MARK = 128;

        private final int[] cells;
        private int size;

        Row() {
            cells = new int[MOST_SIGNS];
        }

        boolean hasSign(int i) {
            return i >= 0 && i < size;
        }

        boolean hasPlace(int i) {
            return i >= 0 && i <= size;
        }

        boolean hasPart(int i, int n) {
            return hasSign(i) && n >= 1 && n <= size - i;
        }

        int room() {
            return MOST_SIGNS - size;
        }

        int byteAt(int i) {
            return cells[i] & MARK - 1;
        }

        boolean markedAt(int i) {
            return (cells[i] & MARK) != 0;
        }

        void setByte(int i, int c) {
            cells[i] = c;
        }

        void setMark(int i, boolean on) {
            cells[i] = on ? byteAt(i) | MARK : byteAt(i);
        }

        void become(Row other) {
            size = other.size;
            System.arraycopy(other.cells, 0, cells, 0, size);
        }

        void clear() {
            size = 0;
        }

        void bringIn(int place, int c) {
            openGap(place, 1);
            cells[place] = c;
        }

        void takeOut(int from, int n) {
            System.arraycopy(cells, from + n, cells, from, size - from - n);
            size -= n;
        }

        void shift(int from, int n, int place) {
            if (place <= from) {
                swapParts(place, from, from + n);
            } else {
                swapParts(from, from + n, place);
            }
        }

        void repeat(int from, int n, int place) {
            openGap(place, n);
            for (int t = 0; t < n; t++) {
                // those that stood behind the place have gone on by the gap
                int origin = from + t < place ? from + t : from + t + n;
                cells[place + t] = cells[origin];
            }
        }

        int turnAbout(int from, int n) {
            reverse(from, from + n);
            int turnedBrackets = 0;
            for (int i = from; i < from + n; i++) {
                int c = byteAt(i);
                turnedBrackets += oneIf(Signs.isBracket(c));
                setByte(i, Signs.turned(c));
            }
            return turnedBrackets;
        }

        int openingSigns() {
            int sum = 0;
            for (int i = 0; i < size; i++) {
                sum += oneIf(Signs.opens(byteAt(i)));
            }
            return sum;
        }

        int closingSigns() {
            int sum = 0;
            for (int i = 0; i < size; i++) {
                sum += oneIf(Signs.closes(byteAt(i)));
            }
            return sum;
        }

        private void openGap(int place, int n) {
            System.arraycopy(cells, place, cells, place + n, size - place);
            size += n;
        }

        /** Two parts side by side change places; three reversals need no row beside this one. */
        private void swapParts(int from, int middle, int till) {
            reverse(from, middle);
            reverse(middle, till);
            reverse(from, till);
        }

        private void reverse(int from, int till) {
            int j = till - 1;
            for (int i = from; i < j; i++) {
                int cell = cells[i];
                cells[i] = cells[j];
                cells[j] = cell;
                j--;
            }
        }
    }

    /** What follows from a row: PARTNERS, DEPTHS, LEVELS, what is HIDDEN; true since the survey. */
    private static final class Brackets {
        /** What can be tallied, by the numbers that rule() has for it. */
        static final int PAIRS = 2, BARE_SIGNS = 3, CLASHES = 4, FOLDS = 5, HIDDEN_SIGNS = 6, MARKS = 7;

        private final Row row;
        private final int[] partners;
        private final int[] partnersAlone;
        private final int[] heap;
        private final int[] depths;
        private final int[] slashes;
        private final int[] levels;
        private final boolean[] hidden;

        Brackets() {
            row = new Row();
            partners = new int[MOST_SIGNS];
            partnersAlone = new int[MOST_SIGNS];
            heap = new int[MOST_SIGNS];
            depths = new int[MOST_SIGNS + 1];
            slashes = new int[MOST_SIGNS + 1];
            levels = new int[MOST_SIGNS];
            hidden = new boolean[MOST_SIGNS];
        }

        void survey() {
            for (int i = 0; i < row.size; i++) {
                partners[i] = NONE;
                partnersAlone[i] = NONE;
            }
            pairUp(ALL, partners);
            for (int kind = 0; kind < KINDS; kind++) {
                pairUp(kind, partnersAlone);
            }
            countAlong();
            nest();
        }

        private void pairUp(int kind, int[] into) {
            int top = 0;
            for (int i = 0; i < row.size; i++) {
                int c = row.byteAt(i);
                if (!isOf(c, kind)) {
                    continue;
                }
                if (Signs.opens(c)) {
                    heap[top] = i;
                    top++;
                } else if (top > 0) {
                    top--;
                    into[i] = heap[top];
                    into[heap[top]] = i;
                }
            }
        }

        private static boolean isOf(int c, int kind) {
            return Signs.isBracket(c) && (kind == ALL || Signs.kindOf(c) == kind);
        }

        private void countAlong() {
            for (int i = 0; i < row.size; i++) {
                int c = row.byteAt(i);
                depths[i + 1] = depths[i] + oneIf(Signs.opens(c)) - oneIf(Signs.closes(c));
                slashes[i + 1] = slashes[i] + oneIf(c == '/');
            }
        }

        private void nest() {
            int within = 0;
            int folds = 0;
            for (int i = 0; i < row.size; i++) {
                int partner = partners[i];
                if (partner >= 0 && partner < i) {
                    within--;
                    folds -= oneIf(isFolded(partner));
                }
                levels[i] = within;
                hidden[i] = folds > 0;
                if (partner > i) {
                    within++;
                    folds += oneIf(isFolded(i));
                }
            }
        }

        private boolean isFolded(int first) {
            int partner = partners[first];
            return partner > first && row.markedAt(first) && slashes[partner] > slashes[first];
        }

        private boolean isBare(int i) {
            return Signs.isBracket(row.byteAt(i)) && partners[i] == NONE;
        }

        boolean clashes(int i) {
            int partner = partners[i];
            return partner >= 0 && Signs.kindOf(row.byteAt(i)) != Signs.kindOf(row.byteAt(partner));
        }

        int tally(int what) {
            int sum = 0;
            for (int i = 0; i < row.size; i++) {
                sum += oneIf(belongsTo(i, what));
            }
            return sum;
        }

        /** A PAIR is counted by its first SIGN. */
        private boolean belongsTo(int i, int what) {
            switch (what) {
                case PAIRS:
                    return partners[i] > i;
                case BARE_SIGNS:
                    return isBare(i);
                case CLASHES:
                    return partners[i] > i && clashes(i);
                case FOLDS:
                    return isFolded(i);
                case HIDDEN_SIGNS:
                    return hidden[i];
                case MARKS:
                    return row.markedAt(i);
                default:
                    return false;
            }
        }

        int greatestLevel() {
            int greatest = 0;
            for (int i = 0; i < row.size; i++) {
                greatest = Math.max(greatest, levels[i]);
            }
            return greatest;
        }

        int leastDepth(int from, int till) {
            int least = depths[from];
            for (int p = from; p <= till; p++) {
                least = Math.min(least, depths[p]);
            }
            return least;
        }

        int innermostAround(int i, int kind) {
            int[] by = kind == ALL ? partners : partnersAlone;
            for (int first = i - 1; first >= 0; first--) {
                if (isOf(row.byteAt(first), kind) && by[first] > i) {
                    return first;
                }
            }
            return NONE;
        }

        /** Within a PAIR none is BARE or has its PARTNER outside, so this never stops between two PARTNERS. */
        int wholeTill(int from) {
            for (int i = from; i < row.size; i++) {
                if (Signs.isBracket(row.byteAt(i)) && partners[i] < from) {
                    return i;
                }
            }
            return row.size;
        }

        int longestFrom() {
            int best = 0;
            int length = 0;
            for (int from = 0; from < row.size; from++) {
                int reach = wholeTill(from) - from;
                if (reach > length) {
                    best = from;
                    length = reach;
                }
            }
            return best;
        }

        int nextBare(int place) {
            for (int i = place; i < row.size; i++) {
                if (isBare(i)) {
                    return i;
                }
            }
            return NONE;
        }

        int lastBare(int place) {
            for (int i = place - 1; i >= 0; i--) {
                if (isBare(i)) {
                    return i;
                }
            }
            return NONE;
        }

        int seenAt(int k) {
            int ahead = 0;
            for (int i = 0; i < row.size; i++) {
                if (!hidden[i]) {
                    if (ahead == k) {
                        return i;
                    }
                    ahead++;
                }
            }
            return NONE;
        }
    }

    /** The row as it was ahead of and behind each EDIT, in a ring that lets the oldest go. */
    private static final class History {
        private static final int STATES = MOST_EDITS + 1;

        private final Row[] states;
        private int oldest;
        private int past;
        private int ahead;

        History() {
            states = new Row[STATES];
            for (int i = 0; i < STATES; i++) {
                states[i] = new Row();
            }
        }

        void add(Row row) {
            ahead = 0;
            if (past < MOST_EDITS) {
                past++;
            } else {
                oldest = (oldest + 1) % STATES;
            }
            present().become(row);
        }

        void restart(Row row) {
            past = 0;
            ahead = 0;
            present().become(row);
        }

        Row stepBack() {
            past--;
            ahead++;
            return present();
        }

        Row stepOn() {
            past++;
            ahead--;
            return present();
        }

        private Row present() {
            return states[(oldest + past) % STATES];
        }
    }

    /** A row of CELLS whose FAULTS are looked for ahead of each use. */
    private static final class Sheet {
        static final int NULL = 1, INDEX = 2, CAST = 3, SIZE = 4;
        private static final int BYTES = 0, SHORTS = 1;

        private final int[] cells;
        private boolean there;
        private int lane;
        private int size;

        Sheet() {
            cells = new int[MOST_CELLS];
        }

        void makeNew(int newLane, int n) {
            there = true;
            lane = newLane;
            size = n;
            for (int i = 0; i < n; i++) {
                cells[i] = 0;
            }
        }

        /** In the machine's order: nothing can be cast to any lane, and a cast comes ahead of an index. */
        int faultAt(int takenAs, int i) {
            if (!there) {
                return NULL;
            }
            if (takenAs != lane) {
                return CAST;
            }
            return i < 0 || i >= size ? INDEX : 0;
        }

        void setCell(int i, int v) {
            switch (lane) {
                case BYTES:
                    cells[i] = (byte) v;
                    break;
                case SHORTS:
                    cells[i] = (short) v;
                    break;
                default:
                    cells[i] = v;
                    break;
            }
        }
    }

    /** The bytes of a text that is being told. */
    private static final class Tape {
        private final int[] bytes;
        private int length;

        Tape() {
            bytes = new int[MOST_BYTES];
        }

        void append(int c) {
            bytes[length] = c;
            length++;
        }

        void shorten(int n) {
            length = n;
        }
    }

    /** How far the reading of a text has come, and the FAULT that stopped it. */
    private static final class Blame {
        static final int NO_TOKEN = 1, NOT_HERE = 2, OUT_OF_BOUNDS = 3, TOO_MANY = 5, NO_MARK = 6;

        private int fault;
        private int place;
        private int line;
        private int token;
        private int inQuote;

        void restart() {
            fault = 0;
            place = 0;
            line = 0;
            token = 0;
            inQuote = NONE;
        }

        void tokenTaken() {
            token++;
        }

        void lineTaken() {
            line++;
            token = 0;
        }

        /** Answers false, as the reading does that it stops. */
        boolean stopAt(int stopFault, int stopPlace) {
            fault = stopFault;
            place = stopPlace;
            return false;
        }

        boolean stopInQuote(int stopFault, int stopPlace, int bytesAhead) {
            inQuote = bytesAhead;
            return stopAt(stopFault, stopPlace);
        }

        int part(int what) {
            if (fault == 0 || fault == NO_MARK) {
                return NONE;
            }
            switch (what) {
                case 0:
                    return line;
                case 1:
                    return token;
                default:
                    return inQuote;
            }
        }
    }

    /** The TOKENS of a tape, one behind another. */
    private static final class Tokens {
        static final int END = 0, NAME = 1, NUMBER = 2, SEMICOLON = 3, QUOTE = 4;
        private static final int MOST_FIGURES = 2;

        private final Tape tape;
        private final Blame blame;
        private int kind;
        private int from;
        private int till;
        private int number;

        Tokens() {
            tape = new Tape();
            blame = new Blame();
        }

        void restart() {
            till = 0;
        }

        /** Reads the next TOKEN whole; false if there is a FAULT in it. */
        boolean advance() {
            while (till < tape.length && tape.bytes[till] == ' ') {
                till++;
            }
            from = till;
            if (from >= tape.length) {
                kind = END;
                return true;
            }
            int c = tape.bytes[from];
            if (Signs.isLetter(c)) {
                return passName();
            }
            if (isFigure(c)) {
                return passNumber();
            }
            if (c == '"') {
                return passQuote();
            }
            return passSemicolon(c);
        }

        private boolean passName() {
            kind = NAME;
            while (till < tape.length && Signs.isLetter(tape.bytes[till])) {
                till++;
            }
            return true;
        }

        private boolean passNumber() {
            kind = NUMBER;
            number = 0;
            while (till < tape.length && isFigure(tape.bytes[till])) {
                number = number * 10 + tape.bytes[till] - '0';
                till++;
            }
            return till - from <= MOST_FIGURES || blame.stopAt(Blame.NO_TOKEN, from);
        }

        private boolean passQuote() {
            kind = QUOTE;
            for (till = from + 1; till < tape.length; till++) {
                int c = tape.bytes[till];
                if (c == '"') {
                    till++;
                    return true;
                }
                if (!Signs.isSign(c)) {
                    return blame.stopInQuote(Blame.NO_TOKEN, till, till - from - 1);
                }
            }
            return blame.stopInQuote(Blame.NOT_HERE, till, till - from - 1);
        }

        private boolean passSemicolon(int c) {
            kind = SEMICOLON;
            till++;
            return c == ';' || blame.stopAt(Blame.NO_TOKEN, from);
        }

        private static boolean isFigure(int c) {
            return c >= '0' && c <= '9';
        }

        boolean isName(String word) {
            if (kind != NAME || till - from != word.length()) {
                return false;
            }
            for (int i = 0; i < word.length(); i++) {
                if (tape.bytes[from + i] != word.charAt(i)) {
                    return false;
                }
            }
            return true;
        }
    }

    /** Takes a text TOKEN by TOKEN into a draft, so that a FAULT leaves what was told before. */
    private static final class TextReader {
        private static final int MOST_TIMES = 9;

        private final Tokens tokens;
        private final Tape tape;
        private final Blame blame;
        private final Row draft;
        private final boolean[] toMark;
        private int expected;
        private boolean marking;
        private int times;

        TextReader() {
            tokens = new Tokens();
            tape = tokens.tape;
            blame = tokens.blame;
            draft = new Row();
            toMark = new boolean[MOST_SIGNS];
        }

        boolean takeText() {
            restart();
            // a TOKEN takes a byte at least, so this many are never needed
            for (int n = 0; n <= MOST_BYTES; n++) {
                if (!tokens.advance()) {
                    return false;
                }
                if (tokens.kind == Tokens.END && expected == Tokens.NAME) {
                    return takeMarks();
                }
                if (tokens.kind != expected) {
                    return blame.stopAt(Blame.NOT_HERE, tokens.from);
                }
                if (!takeToken()) {
                    return false;
                }
            }
            return blame.stopAt(Blame.NOT_HERE, tape.length);
        }

        private void restart() {
            blame.restart();
            tokens.restart();
            draft.clear();
            for (int i = 0; i < MOST_SIGNS; i++) {
                toMark[i] = false;
            }
            expected = Tokens.NAME;
        }

        private boolean takeToken() {
            switch (expected) {
                case Tokens.NAME:
                    return takeName();
                case Tokens.NUMBER:
                    return takeNumber();
                case Tokens.QUOTE:
                    return takeQuote();
                default:
                    blame.lineTaken();
                    expected = Tokens.NAME;
                    return true;
            }
        }

        private boolean takeName() {
            times = 1;
            marking = tokens.isName("mark");
            if (tokens.isName("row")) {
                return goOnWith(Tokens.QUOTE);
            }
            if (marking || tokens.isName("rep")) {
                return goOnWith(Tokens.NUMBER);
            }
            return blame.stopAt(Blame.NOT_HERE, tokens.from);
        }

        private boolean takeNumber() {
            int least = marking ? 0 : 1;
            int most = marking ? MOST_SIGNS - 1 : MOST_TIMES;
            if (tokens.number < least || tokens.number > most) {
                return blame.stopAt(Blame.OUT_OF_BOUNDS, tokens.from);
            }
            if (marking) {
                toMark[tokens.number] = true;
                return goOnWith(Tokens.SEMICOLON);
            }
            times = tokens.number;
            return goOnWith(Tokens.QUOTE);
        }

        private boolean takeQuote() {
            int first = tokens.from + 1;
            int behind = tokens.till - 1;
            if (times * (behind - first) > draft.room()) {
                return blame.stopAt(Blame.TOO_MANY, tokens.from);
            }
            for (int time = 0; time < times; time++) {
                for (int i = first; i < behind; i++) {
                    draft.bringIn(draft.size, tape.bytes[i]);
                }
            }
            return goOnWith(Tokens.SEMICOLON);
        }

        private boolean goOnWith(int kind) {
            blame.tokenTaken();
            expected = kind;
            return true;
        }

        /** Behind all, since a MARK may be told ahead of its SIGN. */
        private boolean takeMarks() {
            for (int i = 0; i < MOST_SIGNS; i++) {
                if (toMark[i]) {
                    if (!draft.hasSign(i) || !Signs.opens(draft.byteAt(i))) {
                        return blame.stopAt(Blame.NO_MARK, tape.length);
                    }
                    draft.setMark(i, true);
                }
            }
            return true;
        }
    }
}
