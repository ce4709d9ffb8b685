import java.math.BigInteger;

/** The terms of EDITS, and promises 15 to 26. */
final class EditEdges {
    private static final int BAD = -1, STATE = -2, FULL = -3;
    private static final int MAX = Keeper.MAX, MIN = Keeper.MIN;
    private static final String SIXTY = "a".repeat(60);

    private EditEdges() {
    }

    static void run() {
        edits();
        undoneAndDoneAgain();
        put();
        insert();
        drop();
        move();
        copy();
        turn();
        mark();
        grow();
        growOneByOne();
        undo();
        redo();
        keep();
        back();
    }

    private static void edits() {
        Document.says(0, "EDITS are what changes SIGNS, MARKS: put(), insert(), drop(), move(), copy(), turn(), mark(), grow(), read(), "
            + "each one, if it is not refused", () -> {
            Keeper x = Keeper.of("(a").lays(0, 0, "b!").due(0, "rule", 8);
            x.does("put", 1, 'c').due(1, "rule", 8).does("insert", 0, 'd').due(2, "rule", 8).does("drop", 0, 1).due(3, "rule", 8)
                .does("move", 0, 1, 2).due(4, "rule", 8).does("copy", 0, 1, 0).due(5, "rule", 8).does("turn", 0, 3).due(6, "rule", 8)
                .does("insert", 0, '(').does("mark", 0, 1).due(8, "rule", 8).does("grow", 1, 3).due(9, "rule", 8)
                .does("read", 0, 0, 0, 1).due(10, "rule", 8);
            x.does("put", 0, '!').does("insert", 99, 'a').does("drop", 0, 99).does("move", 0, 2, 1).does("copy", 0, 0, 0).does("turn", 0, 0)
                .does("mark", 0, 2).does("grow", 1, 31).does("read", 0, 0, 1, 1).due(10, "rule", 8).due(0, "rule", 9);
            x.does("keep", 0).does("sheet", 1, 0, 4).does("lay", 1, 0, 'a').does("feed", ' ').does("end", 0).due(10, "rule", 8);
        });
        Document.says(0, "(also if all stays as it is).", () -> {
            Keeper same = Keeper.of("a(", 1).due('a', "put", 0, 'a').due(1, "rule", 8).due(1, "move", 0, 1, 0).due(2, "rule", 8)
                .due(1, "move", 0, 1, 1).due(3, "rule", 8).due(0, "turn", 0, 1).due(4, "rule", 8).due(1, "mark", 1, 1).due(5, "rule", 8)
                .due(0, "read", 0, 0, 0, 0).due(6, "rule", 8).due(0, "read", 0, 0, 0, 1).due(7, "rule", 8).dueSigns("a(*");
            same.due(2, "undo").due(6, "rule", 8).dueSigns("a(*").due('a', "put", 0, 'a').due(0, "rule", 9).due(7, "rule", 8);
            Keeper.of(SIXTY).due(0, "grow", 5, 1).due(1, "rule", 8).due(60, "undo");
        });
    }

    private static void undoneAndDoneAgain() {
        Document.says(0, "The latest 20 can be undone, one behind another;", () -> {
            for (int made = 18; made <= 43; made++) {
                Keeper x = new Keeper();
                for (int t = 0; t < made; t++) {
                    x.does("insert", t, 'a' + t % 26);
                }
                int most = Math.min(made, 20);
                for (int t = 1; t <= most; t++) {
                    x.due(made - t, "undo");
                }
                x.due(STATE, "undo").due(made - most, "rule", 0).dueSigns("abcdefghijklmnopqrstuvwxyz".substring(0, made - most));
            }
        });
        Document.says(0, "what was undone can be done again, till another EDIT.", () -> {
            Keeper x = Keeper.of("a").does("insert", 1, 'b').does("insert", 2, 'c').does("insert", 3, 'd').does("undo").does("undo");
            x.due(BAD, "put", 0, '!').due(2, "rule", 9).due(3, "redo").dueSigns("abc").due(1, "rule", 9).due('a', "put", 0, 'a')
                .due(0, "rule", 9).due(STATE, "redo").due(3, "rule", 8).due(3, "undo").due(2, "undo").due(1, "undo").due(STATE, "undo");
            Keeper cut = new Keeper();
            for (int t = 0; t < 25; t++) {
                cut.does("insert", t, 'a' + t);
            }
            for (int t = 0; t < 20; t++) {
                cut.does("undo");
            }
            cut.due(6, "insert", 5, 'z').due(1, "rule", 8).due(0, "rule", 9).due(5, "undo").due(STATE, "undo").due(6, "redo").dueSigns("abcdez");
        });
    }

    /** Numbers that are no signs or no parts leave an object of these signs as it is. */
    private static void allBad(Keeper x, String name, int[]... wrong) {
        String signs = x.signs();
        for (int[] args : wrong) {
            x.due(BAD, name, args);
        }
        x.dueSigns(signs).due(0, "rule", 8);
    }

    private static void put() {
        Document.says(15, "A SIGN becomes a byte (without MARK): what it was.", () -> {
            Keeper.of("a(", 1).due('(', "put", 1, '[').dueSigns("a[").due('a', "put", 0, '/').dueSigns("/[");
            Keeper.of("(", 0).due('(', "put", 0, '(').dueSigns("(").due(0, "rule", 7);
            Keeper.of(SIXTY).due('a', "put", 59, 'z').due('z', "sign", 59, 0).due(60, "rule", 0);
        });
        Document.says(15, "BAD: also no SIGN.", () -> {
            allBad(Keeper.of("a(b", 1), "put", new int[][] {{-1, 'a'}, {3, 'a'}, {MAX, 'a'}, {MIN, 'a'}, {0, '!'}, {0, ' '}, {0, '0'}, {0, 'A'},
                {0, '`'}, {0, '|'}, {0, '.'}, {0, -1}, {0, 0}, {0, 'a' + 128}, {0, 'a' + 256}, {0, MAX}, {0, MIN}, {1, '*'}, {1, '\''}});
            allBad(new Keeper(), "put", new int[][] {{0, 'a'}});
        });
    }

    private static void insert() {
        Document.says(16, "A SIGN comes in at place i: how many there are.", () -> {
            new Keeper().due(1, "insert", 0, 'b').due(2, "insert", 0, 'a').due(3, "insert", 2, 'c').dueSigns("abc");
            Keeper.of("(/)", 0).due(4, "insert", 1, '(').dueSigns("(*(/)").due(5, "insert", 0, '(').dueSigns("((*(/)");
        });
        Document.says(16, "BAD: also no SIGN;", () -> {
            allBad(Keeper.of("a(b", 1), "insert", new int[][] {{-1, 'a'}, {4, 'a'}, {MAX, 'a'}, {MIN, 'a'}, {0, '!'}, {3, ' '}, {0, 'Z'}, {0, -1},
                {0, 'a' + 128}, {0, 'a' + 256}, {0, MAX}, {0, MIN}});
            allBad(new Keeper(), "insert", new int[][] {{1, 'a'}, {-1, 'a'}, {0, '!'}});
        });
        Document.says(16, "FULL.", () -> {
            Keeper.of(SIXTY).due(FULL, "insert", 0, 'b').due(FULL, "insert", 60, 'b').due(FULL, "insert", 30, 'b').dueSigns(SIXTY)
                .due(0, "rule", 8).due(59, "drop", 0, 1).due(60, "insert", 59, 'b').due(FULL, "insert", 59, 'b');
            Keeper.of("a".repeat(59)).due(60, "insert", 0, 'b').due('b', "sign", 0, 0).due('a', "sign", 59, 0);
        });
    }

    private static void drop() {
        Document.says(17, "n SIGNS (1 on) from i on go: how many are left.", () -> {
            Keeper.of("a(bc", 1).due(3, "drop", 0, 1).dueSigns("(*bc").due(2, "drop", 2, 1).dueSigns("(*b").due(0, "drop", 0, 2).dueSigns("");
            Keeper.of(SIXTY).due(0, "drop", 0, 60).due(60, "undo").due(1, "drop", 1, 59);
            Keeper.of("ab(", 2).due(2, "drop", 2, 1).due(3, "insert", 2, '(').dueSigns("ab(");
        });
        Document.says(17, "BAD.", () -> {
            allBad(Keeper.of("a(b", 1), "drop", new int[][] {{0, 0}, {0, -1}, {0, MIN}, {-1, 1}, {-1, 2}, {3, 1}, {3, 0}, {0, 4}, {1, 3}, {2, 2},
                {MAX, 1}, {MIN, 1}, {1, MAX}, {MAX, MAX}, {MIN, MIN}, {3, -1}, {2, MAX}});
            allBad(new Keeper(), "drop", new int[][] {{0, 0}, {0, 1}});
        });
    }

    private static void move() {
        Document.says(18, "n SIGNS (1 on) from i on come to place j (as places are ahead of that;", () -> {
            dueMoved(0, 1, 4, "(*bca");
            dueMoved(0, 1, 2, "(*abc");
            dueMoved(3, 1, 0, "ca(*b");
            dueMoved(2, 2, 1, "abc(*");
            dueMoved(0, 3, 4, "ca(*b");
            dueMoved(1, 2, 4, "ac(*b");
            Keeper.of("b" + "a".repeat(59)).due(1, "move", 0, 1, 60).due('b', "sign", 59, 0).due('a', "sign", 0, 0)
                .due(1, "move", 59, 1, 0).due('b', "sign", 0, 0).due(60, "rule", 0);
        });
        Document.says(18, "j is not between i and i and n, but may be either),", () -> {
            dueMoved(1, 2, 1, "a(*bc");
            dueMoved(1, 2, 3, "a(*bc");
            dueMoved(0, 4, 0, "a(*bc");
            dueMoved(0, 4, 4, "a(*bc");
            allBad(Keeper.of("a(bc", 1), "move", new int[][] {{1, 2, 2}, {0, 2, 1}, {0, 4, 1}, {0, 4, 2}, {0, 4, 3}, {1, 3, 2}, {1, 3, 3}});
        });
        Document.says(18, "MARKS with them: 1.", () -> Keeper.of("({a", 0, 1).due(1, "move", 0, 2, 3).dueSigns("a(*{*")
            .due(1, "move", 2, 1, 0).dueSigns("{*a(*").due(2, "rule", 7));
        Document.says(18, "BAD.", () -> {
            allBad(Keeper.of("a(b", 1), "move", new int[][] {{-1, 1, 0}, {3, 1, 0}, {0, 0, 0}, {0, -1, 0}, {0, 4, 0}, {1, 3, 0}, {0, 1, -1}, {0, 1, 4},
                {MAX, 1, 0}, {MIN, 1, 0}, {0, MAX, 0}, {1, MAX, 0}, {1, MIN, 0}, {0, 1, MAX}, {0, 1, MIN}, {MAX, MAX, MAX}, {3, 0, 3}});
            allBad(new Keeper(), "move", new int[][] {{0, 0, 0}, {0, 1, 0}});
        });
    }

    private static void dueMoved(int i, int n, int j, String want) {
        Keeper.of("a(bc", 1).due(1, "move", i, n, j).dueSigns(want).due(1, "rule", 8).due(4, "undo").dueSigns("a(*bc");
    }

    private static void copy() {
        Document.says(19, "The like of n SIGNS (1 on) from i on come in at place j (any), MARKS too: how many there are.", () -> {
            dueCopied(0, 1, 0, "aa(*b");
            dueCopied(0, 1, 3, "a(*ba");
            dueCopied(1, 1, 1, "a(*(*b");
            dueCopied(1, 1, 2, "a(*(*b");
            dueCopied(0, 3, 0, "a(*ba(*b");
            dueCopied(0, 3, 1, "aa(*b(*b");
            dueCopied(0, 3, 2, "a(*a(*bb");
            dueCopied(0, 3, 3, "a(*ba(*b");
            dueCopied(1, 2, 0, "(*ba(*b");
            dueCopied(2, 1, 1, "ab(*b");
            Keeper.of("(/)".repeat(10)).due(60, "copy", 0, 30, 30).due('(', "sign", 57, 0).due(')', "sign", 59, 0);
        });
        Document.says(19, "BAD;", () -> {
            allBad(Keeper.of("a(b", 1), "copy", new int[][] {{-1, 1, 0}, {3, 1, 0}, {0, 0, 0}, {0, -1, 0}, {0, 4, 0}, {2, 2, 0}, {0, 1, -1}, {0, 1, 4},
                {MAX, 1, 0}, {MIN, 1, 0}, {0, MAX, 0}, {1, MAX, 0}, {0, MIN, 0}, {0, 1, MAX}, {0, 1, MIN}, {MAX, MAX, 0}});
            allBad(new Keeper(), "copy", new int[][] {{0, 0, 0}, {0, 1, 0}});
        });
        Document.says(19, "FULL.", () -> {
            Keeper.of(SIXTY).due(FULL, "copy", 0, 1, 0).due(FULL, "copy", 0, 60, 60).due(0, "rule", 8).due(60, "rule", 0);
            Keeper.of("ab".repeat(20)).due(FULL, "copy", 0, 21, 0).due(FULL, "copy", 0, 40, 40).due(0, "rule", 8).due(60, "copy", 0, 20, 0)
                .due(FULL, "copy", 59, 1, 0);
            Keeper.of("a".repeat(59)).due(FULL, "copy", 0, 2, 0).due(60, "copy", 58, 1, 59);
        });
    }

    private static void dueCopied(int i, int n, int j, String want) {
        Keeper.of("a(b", 1).due(3 + n, "copy", i, n, j).dueSigns(want).due(1, "rule", 8);
    }

    private static void turn() {
        Document.says(20, "n SIGNS (1 on) from i on stand in the other order, each that opens is the one that closes of its KIND and the "
            + "other way round;", () -> {
            Keeper.of("([{)]}az/").due(6, "turn", 0, 9).dueSigns("/za{[(}])");
            Keeper.of("([{)]}").due(1, "turn", 0, 1).dueSigns(")[{)]}").due(1, "turn", 5, 1).dueSigns(")[{)]{").due(2, "turn", 2, 2)
                .dueSigns(")[(}]{");
            Keeper.of("(" + "a".repeat(59)).due(1, "turn", 0, 60).due('a', "sign", 0, 0).due(')', "sign", 59, 0);
        });
        Document.says(20, "without MARKS:", () -> {
            Keeper.of("(a[{", 0, 2, 3).due(2, "turn", 0, 3).dueSigns("]a){*").due(1, "rule", 7);
            Keeper.of(")(", 1).due(2, "turn", 0, 2).dueSigns(")(");
        });
        Document.says(20, "how many of them are brackets.", () -> Keeper.of("a(/]z").due(0, "turn", 0, 1).due(1, "turn", 1, 1)
            .due(0, "turn", 2, 1).due(2, "turn", 0, 5).due(1, "turn", 0, 2));
        Document.says(20, "BAD.", () -> {
            allBad(Keeper.of("a(b", 1), "turn", new int[][] {{0, 0}, {0, -1}, {-1, 1}, {3, 1}, {3, 0}, {0, 4}, {2, 2}, {MAX, 1}, {MIN, 1}, {1, MAX},
                {0, MIN}, {MAX, MAX}});
            allBad(new Keeper(), "turn", new int[][] {{0, 0}, {0, 1}});
        });
    }

    private static void mark() {
        Document.says(21, "A SIGN has a MARK (on 1) or none (0): whether it had one (1, 0).", () -> {
            Keeper.of("a(").due(0, "mark", 1, 0).dueSigns("a(").due(0, "mark", 1, 1).dueSigns("a(*").due(1, "mark", 1, 1).dueSigns("a(*")
                .due(1, "mark", 1, 0).dueSigns("a(").due(0, "mark", 1, 0);
            Keeper.of("a".repeat(59) + "[").due(0, "mark", 59, 1).due(1, "sign", 59, 6);
        });
        Document.says(21, "BAD: also a SIGN that does not open.", () -> {
            allBad(Keeper.of("a()]}/", 1), "mark", new int[][] {{-1, 1}, {6, 1}, {MAX, 1}, {MIN, 1}, {1, 2}, {1, -1}, {1, MAX}, {1, MIN}, {0, 1}, {0, 0},
                {2, 1}, {2, 0}, {3, 1}, {4, 1}, {5, 1}, {5, 0}});
            allBad(new Keeper(), "mark", new int[][] {{0, 1}, {0, 0}});
            allBad(Keeper.of("(".repeat(60)), "mark", new int[][] {{60, 1}, {-1, 0}});
            Keeper.of("a(").does("drop", 1, 1).due(BAD, "mark", 1, 1).due(1, "rule", 8);
        });
    }

    /** The seed whose next one has these bits 16 to 30; the bits around them are all as told. */
    private static int seedBefore(int got, boolean bitsAround) {
        int next = got << 16 | (bitsAround ? 0x8000ffff : 0);
        BigInteger all = BigInteger.ONE.shiftLeft(32);
        BigInteger back = BigInteger.valueOf(1103515245).modInverse(all);
        return BigInteger.valueOf(next).subtract(BigInteger.valueOf(12345)).multiply(back).mod(all).intValue();
    }

    private static void grow() {
        Document.says(22, "By a seed, n times (1 to 30), as long as there is room:", () -> {
            new Keeper().due(1, "grow", 3, 1).due(1, "rule", 0).due(30, "grow", 3, 30).due(31, "rule", 0).due(29, "grow", 3, 30)
                .due(60, "rule", 0).due(0, "grow", 3, 30).due(60, "rule", 0);
            Keeper.of("a".repeat(30)).due(30, "grow", MIN, 30).due(60, "rule", 0);
            Keeper.of("a".repeat(31)).due(29, "grow", MAX, 30).due(60, "rule", 0);
            Keeper.of("a".repeat(59)).due(1, "grow", 0, 2).due(60, "rule", 0);
        });
        Document.says(22, "how many came (one EDIT, also of none).", () -> {
            Keeper.of("ab").due(30, "grow", 1, 30).due(1, "rule", 8).due(2, "undo").dueSigns("ab").due(STATE, "undo").due(32, "redo");
            Keeper.of(SIXTY).due(0, "grow", 1, 1).due(1, "rule", 8).due(60, "undo").due(1, "rule", 9).due(0, "grow", 1, 30).due(0, "rule", 9);
        });
        Document.says(22, "BAD.", () -> allBad(Keeper.of("a(b", 1), "grow", new int[][] {{1, 0}, {1, -1}, {1, 31}, {1, MAX}, {1, MIN}, {0, 0},
            {MIN, 31}}));
    }

    private static void growOneByOne() {
        Document.says(22, "the seed becomes seed times 1103515245 and 12345; bits 16 to 30 of it are got:", () -> {
            Keeper.of("a".repeat(9)).due(1, "grow", 0, 1).dueSigns("(" + "a".repeat(9));
            Keeper.of("a".repeat(9)).due(2, "grow", 0, 2).dueSigns(grownFrom(0, "a".repeat(9), 2));
            Keeper.of("a".repeat(9)).due(3, "grow", -1, 3).dueSigns(grownFrom(-1, "a".repeat(9), 3));
            for (int got : new int[] {0, 1, 64, 16384, 32767}) {
                String want = grown("b".repeat(9), got);
                Keeper.of("b".repeat(9)).due(1, "grow", seedBefore(got, false), 1).dueSigns(want);
                Keeper.of("b".repeat(9)).due(1, "grow", seedBefore(got, true), 1).dueSigns(want);
            }
        });
        Document.says(22, "at place got modulo SIGNS and 1 a SIGN comes in:", () -> {
            new Keeper().due(1, "grow", seedBefore(32767, true), 1).dueSigns("z");
            for (int got : new int[] {0, 1, 3, 4, 5, 9, 32767}) {
                Keeper.of("bbbb").due(1, "grow", seedBefore(got, true), 1).dueSigns(grown("bbbb", got));
            }
            Keeper.of("b".repeat(59)).due(1, "grow", seedBefore(59, false), 1).due('(', "sign", 59, 0);
            Keeper.of("b".repeat(59)).due(1, "grow", seedBefore(60, false), 1).due('(', "sign", 0, 0);
        });
        Document.says(22, "by got by 64 (down) modulo 9 one of ( ) [ ] { } a z /:", () -> {
            String signs = "()[]{}az/";
            for (int of = 0; of < 9; of++) {
                new Keeper().due(1, "grow", seedBefore(of * 64, false), 1).due(signs.charAt(of), "sign", 0, 0);
                new Keeper().due(1, "grow", seedBefore(of * 64 + 63, true), 1).due(signs.charAt(of), "sign", 0, 0);
                new Keeper().due(1, "grow", seedBefore((of + 9) * 64, true), 1).due(signs.charAt(of), "sign", 0, 0);
            }
        });
    }

    private static String grown(String signs, int got) {
        int place = got % (signs.length() + 1);
        return signs.substring(0, place) + "()[]{}az/".charAt(got / 64 % 9) + signs.substring(place);
    }

    /** By numbers that have no bounds, so that what wraps around is seen apart. */
    private static String grownFrom(int seed, String signs, int times) {
        BigInteger next = BigInteger.valueOf(seed);
        String row = signs;
        for (int t = 0; t < times; t++) {
            next = next.multiply(BigInteger.valueOf(1103515245)).add(BigInteger.valueOf(12345));
            row = grown(row, next.shiftRight(16).and(BigInteger.valueOf(32767)).intValue());
        }
        return row;
    }

    private static void undo() {
        Document.says(23, "The latest EDIT that can be undone is: all is as it was ahead of it: SIGNS.", () -> {
            Keeper.of("(/)", 0).due(0, "drop", 0, 3).due(3, "undo").dueSigns("(*/)").due(1, "rule", 6).due(1, "rule", 2).due(2, "sign", 0, 3);
            Keeper.of("(/)", 0).due(2, "drop", 2, 1).due(0, "rule", 2).due(3, "undo").due(1, "rule", 2).due(0, "rule", 3).due(1, "sign", 1, 7)
                .due(1, "sign", 1, 2).due(2, "sign", 0, 4).due(1, "low", 2, 2).due(1, "sign", 2, 8).due(3, "whole", 0);
            Keeper.of("([", 0).due('(', "put", 0, '(').due(0, "mark", 1, 1).due(2, "turn", 0, 2).due(2, "undo").dueSigns("([*")
                .due(2, "undo").dueSigns("([").due(2, "undo").dueSigns("(*[");
            Keeper.of(SIXTY).due(1, "drop", 0, 59).due(60, "undo").dueSigns(SIXTY);
        });
        Document.says(23, "STATE: there is none.", () -> {
            new Keeper().due(STATE, "undo").due(1, "insert", 0, 'a').due(0, "undo").due(STATE, "undo").due(1, "redo").dueSigns("a");
            Keeper.of("a").due(STATE, "undo").due(BAD, "put", 0, '!').due(STATE, "undo").dueSigns("a");
        });
    }

    private static void redo() {
        Document.says(24, "What was undone last is done again: SIGNS.", () -> {
            Keeper x = new Keeper().does("insert", 0, 'a').does("insert", 1, '(').does("mark", 1, 1).does("undo").does("undo").does("undo");
            x.due(1, "redo").dueSigns("a").due(2, "redo").dueSigns("a(").due(2, "redo").dueSigns("a(*").due(2, "undo").dueSigns("a(")
                .due(2, "redo").dueSigns("a(*");
            Keeper.of("a(/", 1).due(4, "insert", 3, ')').due(3, "undo").due(0, "rule", 2).due(4, "redo").due(1, "rule", 2).due(0, "rule", 3)
                .due(1, "sign", 2, 7).due(1, "sign", 2, 2).due(3, "sign", 1, 4).due(0, "low", 4, 4).due(1, "sign", 3, 8).due(4, "whole", 0);
            Keeper twenty = new Keeper();
            for (int t = 0; t < 21; t++) {
                twenty.does("insert", t, 'a' + t);
            }
            for (int t = 0; t < 20; t++) {
                twenty.does("undo");
            }
            for (int t = 2; t <= 21; t++) {
                twenty.due(t, "redo");
            }
            twenty.due(STATE, "redo").dueSigns("abcdefghijklmnopqrstu");
        });
        Document.says(24, "STATE: there is none.", () -> {
            new Keeper().due(STATE, "redo").does("insert", 0, 'a').due(STATE, "redo").does("undo").due(1, "redo").due(STATE, "redo");
            Keeper.of("a").does("insert", 0, 'b').does("undo").does("insert", 0, 'c').due(STATE, "redo").dueSigns("ca");
        });
    }

    private static void keep() {
        Document.says(25, "IMAGE k (0, 1) is SIGNS, MARKS: whether there was one (1, 0).", () -> {
            new Keeper().due(0, "keep", 0).due(1, "keep", 0).due(0, "keep", 1).due(1, "keep", 1).due(0, "back", 0).due(1, "keep", 0);
            Keeper.of("a(", 1).due(0, "keep", 0).does("mark", 1, 0).due(0, "keep", 1).does("drop", 0, 2).due(2, "back", 0).dueSigns("a(*")
                .due(2, "back", 1).dueSigns("a(").due(1, "keep", 0).due(2, "back", 0).dueSigns("a(");
            Keeper.of("a(".repeat(30)).does("mark", 59, 1).due(0, "keep", 1).does("drop", 0, 60).due(60, "back", 1).due(1, "sign", 59, 6);
        });
        Document.says(25, "BAD.", () -> Keeper.of("a").due(BAD, "keep", -1).due(BAD, "keep", 2).due(BAD, "keep", MAX).due(BAD, "keep", MIN)
            .due(0, "count", 0));
    }

    private static void back() {
        Document.says(26, "All is as IMAGE k (no EDITS can be undone, done again): SIGNS.", () -> {
            Keeper x = Keeper.of("(/)", 0).due(0, "keep", 1).does("put", 0, 'a').does("put", 0, 'b').does("undo").due(1, "rule", 8).due(1, "rule", 9);
            x.due(3, "back", 1).dueSigns("(*/)").due(1, "rule", 6).due(0, "rule", 8).due(0, "rule", 9).due(STATE, "undo").due(STATE, "redo");
            x.due(4, "insert", 3, 'z').due(3, "undo").dueSigns("(*/)").due(STATE, "undo").due(3, "back", 1).due(STATE, "redo");
            new Keeper().due(0, "keep", 0).does("insert", 0, 'a').due(0, "back", 0).due(0, "rule", 0).due(STATE, "undo");
        });
        Document.says(26, "BAD;", () -> Keeper.of("a").does("keep", 0).does("keep", 1).due(BAD, "back", -1).due(BAD, "back", 2).due(BAD, "back", MAX)
            .due(BAD, "back", MIN).dueSigns("a"));
        Document.says(26, "STATE: there is none.", () -> {
            Keeper.of("a").does("insert", 0, 'b').does("undo").due(STATE, "back", 0).due(STATE, "back", 1).due(1, "rule", 9).dueSigns("a");
            Keeper.of("a").does("keep", 0).due(STATE, "back", 1).due(1, "back", 0);
            Keeper.of("a").does("keep", 1).due(STATE, "back", 0).due(1, "back", 1);
        });
    }
}
