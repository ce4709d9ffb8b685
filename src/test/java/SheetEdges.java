/** The terms of SHEETS, and promises 27 to 31. */
final class SheetEdges {
    private static final int BAD = -1, STATE = -2, NONE = -4;
    private static final int MAX = Keeper.MAX, MIN = Keeper.MIN;
    private static final int BYTES = 0, SHORTS = 1, INTS = 2;
    private static final int NULL = 1, INDEX = 2, CAST = 3;
    private static final String FORTY = "c".repeat(40);

    private SheetEdges() {
    }

    static void run() {
        sheets();
        machineFaults();
        sheet();
        lay();
        read();
        readOfTheMachine();
        readRefused();
        torn();
        count();
        countOfSigns();
    }

    private static void sheets() {
        Document.says(0, "SHEETS 0 to 3 are rows of BYTES (lane 0), SHORTS (1), INTS (2), all with a sign, with 0 to 40 CELLS, "
            + "or nothing (at first).", () -> {
            for (int k = 0; k < 4; k++) {
                for (int lane = 0; lane < 3; lane++) {
                    new Keeper().due(-11, "lay", k, 0, 'a').due(1, "sheet", k, lane, 0).due(-12, "lay", k, 0, 'a')
                        .due(1, "sheet", k, lane, 40).due(1, "lay", k, 39, 'a').due(-12, "lay", k, 40, 'a').due(1, "read", k, lane, 39, 1)
                        .dueSigns("a");
                }
            }
            new Keeper().due(BAD, "sheet", -1, 0, 1).due(BAD, "sheet", 4, 0, 1).due(BAD, "sheet", 0, -1, 1).due(BAD, "sheet", 0, 3, 1)
                .due(BAD, "sheet", 0, 0, 41);
            bitsOfLanes();
        });
    }

    /** A cell is a sign again only if the bits that the lane lets go are all that is wrong with it. */
    private static void bitsOfLanes() {
        int[] beyondByte = {'a' + 256, 'a' - 256, 'a' + 65536, 'a' + MIN};
        for (int v : beyondByte) {
            new Keeper().lays(0, BYTES, v).due(1, "read", 0, BYTES, 0, 1).dueSigns("a");
            new Keeper().lays(0, INTS, v).due(-20, "read", 0, INTS, 0, 1);
        }
        new Keeper().lays(0, SHORTS, 'a' + 65536, 'a' - 65536).due(2, "read", 0, SHORTS, 0, 2).dueSigns("aa");
        new Keeper().lays(0, SHORTS, 'a' + 256).due(-20, "read", 0, SHORTS, 0, 1);
        new Keeper().lays(0, SHORTS, 'a' + 32768).due(-20, "read", 0, SHORTS, 0, 1);
        new Keeper().lays(0, BYTES, 'a' + 128).due(-20, "read", 0, BYTES, 0, 1);
        new Keeper().lays(0, BYTES, -1).due(-20, "read", 0, BYTES, 0, 1);
    }

    private static void machineFaults() {
        Document.says(0, "A FAULT is what the machine finds: 1 NULL (nothing), 2 INDEX, 3 CAST (another lane), 4 SIZE (below 0).", () -> {
            new Keeper().due(-11, "lay", 0, 0, 0).due(0, "read", 0, 0, 0, 1).due(1, "torn");
            new Keeper().lays(0, BYTES, "a").due(-12, "lay", 0, 1, 0).due(-12, "lay", 0, -1, 0).due(0, "read", 0, BYTES, 1, 1).due(2, "torn");
            new Keeper().lays(0, BYTES, "a").due(0, "read", 0, SHORTS, 0, 1).due(3, "torn").due(0, "read", 0, INTS, 0, 1).due(3, "torn");
            new Keeper().due(-14, "sheet", 0, 0, -1);
            // one of another lane is found ahead of an index, and nothing ahead of both
            new Keeper().lays(0, BYTES, "a").due(0, "read", 0, SHORTS, -1, 1).due(3, "torn");
            new Keeper().due(0, "read", 0, SHORTS, -1, 1).due(1, "torn").due(-11, "lay", 0, -1, 0);
        });
    }

    private static void sheet() {
        Document.says(27, "A SHEET is a new row of CELLS 0: 1.", () -> {
            new Keeper().due(1, "sheet", 0, BYTES, 0).due(0, "count", 2).due(1, "sheet", 0, INTS, 40).due(40, "count", 2);
            Keeper x = new Keeper().lays(0, BYTES, "abc").due(1, "sheet", 0, BYTES, 3);
            for (int i = 0; i < 3; i++) {
                x.due(-20, "read", 0, BYTES, i, 1);
            }
            x.due(0, "read", 0, BYTES, 3, 1).due(INDEX, "torn");
            new Keeper().lays(0, BYTES, "abc").due(1, "sheet", 0, BYTES, 1).due(1, "sheet", 0, BYTES, 3).due(-20, "read", 0, BYTES, 2, 1);
            new Keeper().lays(1, BYTES, "a").due(1, "sheet", 1, SHORTS, 1).due(0, "read", 1, BYTES, 0, 1).due(CAST, "torn");
        });
        Document.says(27, "BAD: also n above 40;", () -> {
            Keeper x = new Keeper().lays(0, BYTES, "ab");
            int[][] wrong = {{0, 0, 41}, {0, 0, MAX}, {-1, 0, 1}, {4, 0, 1}, {MAX, 0, 1}, {MIN, 0, 1}, {0, -1, 1}, {0, 3, 1}, {0, MAX, 1},
                {0, MIN, 1}, {4, 0, -1}, {-1, 0, -1}, {0, 3, -1}, {0, -1, -1}};
            for (int[] args : wrong) {
                x.due(BAD, "sheet", args);
            }
            x.due(2, "count", 2).due(2, "read", 0, BYTES, 0, 2).dueSigns("ab");
        });
        Document.says(27, "-14 (SIZE): n below 0.", () -> {
            new Keeper().lays(0, BYTES, "ab").due(-14, "sheet", 0, BYTES, -1).due(-14, "sheet", 0, INTS, MIN).due(2, "count", 2)
                .due(2, "read", 0, BYTES, 0, 2).dueSigns("ab");
            new Keeper().due(-14, "sheet", 0, 0, -1).due(NONE, "count", 2).due(-11, "lay", 0, 0, 0);
        });
    }

    private static void lay() {
        Document.says(28, "CELL i of a SHEET becomes v (its lowest bits): 1.", () -> {
            new Keeper().due(1, "sheet", 3, BYTES, 40).due(1, "lay", 3, 0, 'a').due(1, "lay", 3, 39, 'b' + 256).due(1, "read", 3, BYTES, 0, 1)
                .due(1, "read", 3, BYTES, 39, 1).dueSigns("ab");
            new Keeper().lays(0, SHORTS, "ab").due(1, "lay", 0, 1, 'c' - 65536).due(2, "read", 0, SHORTS, 0, 2).dueSigns("ac");
            new Keeper().lays(0, INTS, "ab").due(1, "lay", 0, 1, MIN).due(1, "lay", 0, 1, MAX).due(1, "lay", 0, 1, 'z')
                .due(2, "read", 0, INTS, 0, 2).dueSigns("az");
        });
        Document.says(28, "BAD: k;", () -> new Keeper().due(BAD, "lay", -1, 0, 0).due(BAD, "lay", 4, 0, 0).due(BAD, "lay", MAX, 0, 0)
            .due(BAD, "lay", MIN, 0, 0).due(BAD, "lay", 4, -1, 0));
        Document.says(28, "-10 less the FAULT: NULL, INDEX.", () -> {
            Keeper x = new Keeper().lays(0, BYTES, "abc");
            for (int i : new int[] {-1, 3, 40, MAX, MIN}) {
                x.due(-12, "lay", 0, i, 'z').due(-11, "lay", 1, i, 'z');
            }
            x.due(-11, "lay", 1, 0, 'z').due(3, "read", 0, BYTES, 0, 3).dueSigns("abc");
            new Keeper().due(1, "sheet", 0, INTS, 0).due(-12, "lay", 0, 0, 'z');
        });
    }

    private static void read() {
        Document.says(29, "n (0 to 40) SIGNS are read of a SHEET taken as of a lane, a CELL each from CELL f on, one behind another as by "
            + "insert() behind all (one EDIT in all): how many came.", () -> {
            Keeper.of("(", 0).lays(2, SHORTS, "ab/)").due(1, "read", 2, SHORTS, 3, 1).dueSigns("(*)").due(3, "read", 2, SHORTS, 0, 3)
                .dueSigns("(*)ab/").due(2, "rule", 8).due(2, "undo").dueSigns("(*)").due(5, "redo");
            new Keeper().lays(0, BYTES, FORTY).due(40, "read", 0, BYTES, 0, 40).due(1, "rule", 8).due(0, "torn").due(20, "read", 0, BYTES, 20, 20)
                .due(60, "rule", 0).due(0, "read", 0, BYTES, 0, 0).due(3, "rule", 8);
            new Keeper().lays(0, BYTES, "{").due(1, "read", 0, BYTES, 0, 1).due(0, "sign", 0, 6);
        });
        Document.says(29, "BAD: k, lane, n;", () -> {
            Keeper x = Keeper.of("z").lays(0, BYTES, "ab");
            int[][] wrong = {{-1, 0, 0, 1}, {4, 0, 0, 1}, {MAX, 0, 0, 1}, {MIN, 0, 0, 1}, {0, -1, 0, 1}, {0, 3, 0, 1}, {0, MAX, 0, 1},
                {0, MIN, 0, 1}, {0, 0, 0, -1}, {0, 0, 0, 41}, {0, 0, 0, MAX}, {0, 0, 0, MIN}, {4, 0, 0, 0}, {0, 3, 0, 0}};
            for (int[] args : wrong) {
                x.due(BAD, "read", args);
            }
            x.dueSigns("z").due(0, "rule", 8).due(0, "torn");
        });
    }

    private static void readOfTheMachine() {
        Document.says(29, "What the machine refuses: those ahead came (its FAULT is asked by torn();", () -> {
            Keeper x = Keeper.of("z").lays(0, BYTES, "ab").due(2, "read", 0, BYTES, 0, 3).due(INDEX, "torn").dueSigns("zab").due(1, "rule", 8);
            x.due(1, "undo").dueSigns("z").due(3, "redo");
            for (int f : new int[] {-1, -40, 2, 40, MAX, MAX - 1, MIN}) {
                Keeper.of("z").lays(0, BYTES, "ab").due(0, "read", 0, BYTES, f, 40).due(INDEX, "torn").dueSigns("z").due(1, "rule", 8);
            }
            Keeper.of("z").due(1, "sheet", 0, INTS, 0).due(0, "read", 0, INTS, 0, 1).due(INDEX, "torn");
            Keeper.of("z").lays(0, BYTES, "ab").due(0, "read", 0, INTS, 0, 2).due(CAST, "torn").due(0, "read", 1, INTS, 0, 2).due(NULL, "torn")
                .due(2, "rule", 8).dueSigns("z");
            new Keeper().lays(0, BYTES, FORTY).due(1, "read", 0, BYTES, 39, 40).due(INDEX, "torn");
        });
        Document.says(29, "of n 0: 0, no FAULT, whatever the SHEET is).", () -> {
            Keeper x = Keeper.of("z").lays(0, BYTES, "!");
            int[][] none = {{1, 0, 0, 0}, {0, SHORTS, 0, 0}, {0, BYTES, -1, 0}, {0, BYTES, MAX, 0}, {0, BYTES, 0, 0}, {3, INTS, MIN, 0}};
            for (int[] args : none) {
                x.due(0, "read", 1, 0, 0, 1).due(NULL, "torn").due(0, "read", args).due(0, "torn");
            }
            x.dueSigns("z").due(12, "rule", 8);
        });
    }

    private static void readRefused() {
        Document.says(29, "-20 less i (0 on): the i-th is refused by insert() (in either way): then none came;", () -> {
            Keeper.of("z").lays(0, BYTES, "ab!c").due(-22, "read", 0, BYTES, 0, 4).due(-20, "read", 0, BYTES, 2, 1).due(-21, "read", 0, BYTES, 1, 3)
                .dueSigns("z").due(0, "rule", 8).due(1, "read", 0, BYTES, 3, 1).dueSigns("zc");
            new Keeper().lays(0, BYTES, FORTY).due(1, "lay", 0, 39, 0).due(-59, "read", 0, BYTES, 0, 40).due(0, "rule", 0).due(0, "rule", 8);
            Keeper.of("a".repeat(60)).lays(0, BYTES, "b").due(-20, "read", 0, BYTES, 0, 1).due(60, "rule", 0);
            Keeper.of("a".repeat(58)).lays(0, BYTES, "bcd").due(-22, "read", 0, BYTES, 0, 3).due(58, "rule", 0).due(0, "rule", 8)
                .due(2, "read", 0, BYTES, 1, 2).due(60, "rule", 0).due('d', "sign", 59, 0);
            Keeper.of("a".repeat(21)).lays(0, BYTES, FORTY).due(-59, "read", 0, BYTES, 0, 40).due(39, "read", 0, BYTES, 0, 39);
        });
        Document.says(29, "the first met.", () -> {
            Keeper.of("z").lays(0, BYTES, "a!").due(-21, "read", 0, BYTES, 0, 3).due(-20, "read", 0, BYTES, 1, 2).due(0, "torn");
            Keeper.of("a".repeat(59)).lays(0, BYTES, "b").due(1, "read", 0, BYTES, 0, 2).due(INDEX, "torn");
            Keeper.of("a".repeat(60)).lays(0, BYTES, "b").due(0, "read", 0, BYTES, 1, 1).due(INDEX, "torn").due(0, "read", 0, INTS, 0, 1)
                .due(CAST, "torn").due(0, "read", 1, INTS, 0, 1).due(NULL, "torn").due(-20, "read", 0, BYTES, 0, 2).due(NULL, "torn");
            Keeper.of("a".repeat(59)).lays(0, BYTES, "b!").due(-21, "read", 0, BYTES, 0, 2).due(59, "rule", 0);
        });
    }

    private static void torn() {
        Document.says(30, "The FAULT of the latest read() that answered 0 or more;", () -> {
            Keeper x = new Keeper().lays(0, BYTES, "a").due(0, "read", 1, 0, 0, 1).due(NULL, "torn").due(1, "read", 0, BYTES, 0, 2)
                .due(INDEX, "torn").due(0, "read", 0, INTS, 0, 1).due(CAST, "torn");
            x.due(-12, "lay", 0, 1, 0).due(-14, "sheet", 0, 0, -1).does("undo").does("redo").does("insert", 0, 'a').due(0, "text").due(CAST, "torn");
            x.due(1, "read", 0, BYTES, 0, 1).due(0, "torn");
        });
        Document.says(30, "0", () -> new Keeper().due(0, "torn").due(0, "read", 0, 0, 0, 0).due(0, "torn"));
        Document.says(30, "(one that is refused leaves it).", () -> {
            Keeper x = new Keeper().lays(0, BYTES, "a!").due(0, "read", 1, 0, 0, 1).due(NULL, "torn");
            x.due(-21, "read", 0, BYTES, 0, 2).due(NULL, "torn").due(BAD, "read", 0, 0, 0, 41).due(NULL, "torn").due(BAD, "read", 4, 0, 0, 0)
                .due(NULL, "torn").due(-20, "read", 0, BYTES, 1, 9).due(NULL, "torn");
            Keeper.of("a".repeat(60)).lays(0, BYTES, "b").due(0, "read", 0, INTS, 0, 1).due(-20, "read", 0, BYTES, 0, 1).due(CAST, "torn");
        });
    }

    private static void count() {
        Document.says(31, "How many: 0 IMAGES,", () -> {
            new Keeper().due(0, "count", 0).does("keep", 0).due(1, "count", 0).does("keep", 0).due(1, "count", 0).does("keep", 1).due(2, "count", 0)
                .does("back", 0).due(2, "count", 0).does("text").due(0, "count", 0);
            new Keeper().does("keep", 1).due(1, "count", 0).due(STATE, "back", 0);
        });
        Document.says(31, "1 bytes on THE TAPE,", () -> new Keeper().due(0, "count", 1).feeds(" ").due(1, "count", 1).feeds(" ".repeat(159))
            .due(160, "count", 1).does("feed", ' ').due(160, "count", 1).does("end", 7).due(7, "count", 1).does("text").due(0, "count", 1));
        Document.says(31, "2 CELLS of SHEET 0 (NONE: nothing),", () -> new Keeper().due(NONE, "count", 2).does("sheet", 1, 0, 9).due(NONE, "count", 2)
            .does("sheet", 0, 0, 0).due(0, "count", 2).does("sheet", 0, 2, 40).due(40, "count", 2).does("sheet", 0, 0, 41).due(40, "count", 2));
    }

    private static void countOfSigns() {
        Document.says(31, "3 SIGNS that open,", () -> {
            new Keeper().due(0, "count", 3);
            Keeper.of("a)(/[{", 2).due(3, "count", 3);
            Keeper.of("(".repeat(60)).due(60, "count", 3).does("turn", 0, 60).due(0, "count", 3);
        });
        Document.says(31, "4 that close.", () -> {
            new Keeper().due(0, "count", 4);
            Keeper.of("a)(/]}").due(3, "count", 4);
            Keeper.of("]".repeat(60)).due(60, "count", 4).does("turn", 0, 60).due(0, "count", 4);
        });
        Document.says(31, "BAD.", () -> new Keeper().due(BAD, "count", -1).due(BAD, "count", 5).due(BAD, "count", MAX).due(BAD, "count", MIN));
    }
}
