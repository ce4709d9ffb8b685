/** Promises 27 to 31: sheets, what is read of them, counts. */
public final class SheetTest {
    private static final int MAX = Integer.MAX_VALUE;
    private static final int MIN = Integer.MIN_VALUE;

    public static void main(String[] args) {
        sheet();
        lay();
        lowestBits();
        read();
        readRefusedByMachine();
        readRefusedByInsert();
        readFull();
        firstMet();
        counts();
        Check.close();
    }

    private static void fill(FoldKeeper x, int k, int lane, String cells) {
        x.sheet(k, lane, cells.length());
        for (int i = 0; i < cells.length(); i++) {
            x.lay(k, i, cells.charAt(i));
        }
    }

    private static void sheet() {
        FoldKeeper x = new FoldKeeper();
        int[][] wrong = {{-1, 0, 1}, {4, 0, 1}, {MAX, 0, 1}, {MIN, 0, 1}, {0, -1, 1}, {0, 3, 1}, {0, MAX, 1}, {0, 0, 41},
            {0, 0, MAX}, {4, 0, -1}, {0, 3, -1}};
        for (int[] w : wrong) {
            Check.due("sheet(" + w[0] + ", " + w[1] + ", " + w[2] + ")", x.sheet(w[0], w[1], w[2]), Check.BAD);
        }
        Check.due("sheet of -1", x.sheet(0, 0, -1), -14);
        Check.due("sheet of min", x.sheet(0, 0, MIN), -14);
        Check.due("count(2), nothing", x.count(2), Check.NONE);
        Check.due("sheet of 0", x.sheet(0, 0, 0), 1);
        Check.due("count(2)", x.count(2), 0);
        Check.due("lay in no cells", x.lay(0, 0, 1), -12);
        Check.due("sheet of 40", x.sheet(0, 2, 40), 1);
        Check.due("count(2)", x.count(2), 40);
        x.lay(0, 39, 'a');
        Check.due("sheet refused", x.sheet(0, 0, -1), -14);
        Check.due("count(2), as it was", x.count(2), 40);
        Check.due("read, as it was", x.read(0, 2, 39, 1), 1);
        Check.due("sheet anew", x.sheet(0, 2, 40), 1);
        Check.due("cells are 0 anew", x.read(0, 2, 39, 1), -20);
        Check.due("sheets are no edits", x.rule(8), 1);
        fill(x, 0, 2, "a".repeat(40));
        x.sheet(0, 2, 40);
        for (int i = 0; i < 40; i++) {
            Check.due("cell " + i + " is 0 anew", x.read(0, 2, i, 1), -20);
        }
        for (int k = 1; k < 4; k++) {
            Check.due("others have nothing", x.lay(k, 0, 0), -11);
        }
    }

    private static void lay() {
        FoldKeeper x = new FoldKeeper();
        x.sheet(2, 1, 3);
        Check.due("lay(-1)", x.lay(-1, 0, 0), Check.BAD);
        Check.due("lay(4)", x.lay(4, 0, 0), Check.BAD);
        Check.due("lay in nothing", x.lay(1, 0, 0), -11);
        Check.due("lay in nothing, no cell", x.lay(1, -1, 0), -11);
        int[] wrong = {-1, 3, MAX, MIN};
        for (int i : wrong) {
            Check.due("lay(2, " + i + ")", x.lay(2, i, 0), -12);
        }
        Check.due("lay(2, 0)", x.lay(2, 0, 'a'), 1);
        Check.due("lay(2, 2)", x.lay(2, 2, 'c'), 1);
        Check.due("lay(2, 1)", x.lay(2, 1, 'b'), 1);
        Check.due("read", x.read(2, 1, 0, 3), 3);
        Check.dueSigns("read", x, "abc");
    }

    private static int readOne(int lane, int v) {
        FoldKeeper x = new FoldKeeper();
        x.sheet(3, lane, 1);
        Check.due("lay", x.lay(3, 0, v), 1);
        return x.read(3, lane, 0, 1);
    }

    private static void lowestBits() {
        int a = 'a';
        Check.due("byte: 8 bits", readOne(0, a + 256), 1);
        Check.due("byte: 8 bits of a negative", readOne(0, a - 256), 1);
        Check.due("byte: with a sign", readOne(0, a + 128), -20);
        Check.due("short: 16 bits", readOne(1, a + 65536), 1);
        Check.due("short: 16 bits, not 8", readOne(1, a + 256), -20);
        Check.due("short: with a sign", readOne(1, a + 32768), -20);
        Check.due("int: all bits", readOne(2, a + 65536), -20);
        Check.due("int: a sign", readOne(2, a), 1);
        Check.due("int: min", readOne(2, MIN), -20);
        Check.due("int: max", readOne(2, MAX), -20);
    }

    private static void read() {
        FoldKeeper x = Check.holding("z(", 1);
        fill(x, 1, 0, "ab)/{");
        int[][] wrong = {{-1, 0, 0, 1}, {4, 0, 0, 1}, {1, -1, 0, 1}, {1, 3, 0, 1}, {1, 0, 0, -1}, {1, 0, 0, 41}, {1, 0, 0, MAX}, {1, 0, 0, MIN}};
        for (int[] w : wrong) {
            Check.due("read(" + w[0] + ", " + w[1] + ", " + w[2] + ", " + w[3] + ")", x.read(w[0], w[1], w[2], w[3]), Check.BAD);
        }
        Check.due("no edits of that", x.rule(8), 0);
        Check.due("read", x.read(1, 0, 1, 3), 3);
        Check.dueSigns("read", x, "z(*b)/");
        Check.due("one edit in all", x.rule(8), 1);
        Check.due("partners follow", x.sign(1, 3), 3);
        Check.due("torn", x.torn(), 0);
        Check.due("undo", x.undo(), 2);
        Check.due("redo", x.redo(), 5);
    }

    private static void readRefusedByMachine() {
        FoldKeeper x = Check.holding("z");
        fill(x, 1, 1, "abc");
        Check.due("index", x.read(1, 1, 1, 3), 2);
        Check.due("torn: index", x.torn(), 2);
        Check.dueSigns("index", x, "zbc");
        Check.due("cast", x.read(1, 2, 0, 2), 0);
        Check.due("torn: cast", x.torn(), 3);
        Check.due("null", x.read(2, 0, 0, 2), 0);
        Check.due("torn: null", x.torn(), 1);
        Check.due("edits, though none came", x.rule(8), 3);
        Check.due("cast ahead of index", x.read(1, 0, -5, 1), 0);
        Check.due("torn: cast", x.torn(), 3);
        Check.due("null ahead of index", x.read(0, 1, 77, 1), 0);
        Check.due("torn: null", x.torn(), 1);
        int[] outside = {-1, 3, MAX, MIN, MAX - 1};
        for (int f : outside) {
            x.read(1, 1, 0, 0);
            Check.due("index " + f, x.read(1, 1, f, 40), 0);
            Check.due("torn: index " + f, x.torn(), 2);
        }
        Check.due("of none", x.read(2, 0, -9, 0), 0);
        Check.due("torn: of none", x.torn(), 0);
        x.read(1, 1, 0, 4);
        Check.due("torn", x.torn(), 2);
        Check.due("of none, cast", x.read(1, 0, 0, 0), 0);
        Check.due("torn: of none", x.torn(), 0);
    }

    private static void readRefusedByInsert() {
        FoldKeeper x = Check.holding("z");
        fill(x, 0, 2, "ab!c");
        x.put(0, 'y');
        x.put(0, 'x');
        x.undo();
        x.read(3, 0, 0, 1);
        x.undo();
        Check.due("rule(9)", x.rule(9), 1);
        Check.due("no sign", x.read(0, 2, 0, 4), -22);
        Check.dueSigns("no sign", x, "y");
        Check.due("torn stays", x.torn(), 1);
        Check.due("rule(8) stays", x.rule(8), 1);
        Check.due("rule(9) stays", x.rule(9), 1);
        Check.due("no sign, the first", x.read(0, 2, 2, 1), -20);
        Check.due("bad", x.read(0, 3, 2, 1), Check.BAD);
        Check.due("torn stays", x.torn(), 1);
        Check.due("those ahead of it", x.read(0, 2, 0, 2), 2);
        Check.due("torn", x.torn(), 0);
    }

    private static void readFull() {
        FoldKeeper x = Check.holding("b".repeat(58));
        fill(x, 0, 0, "cdef");
        Check.due("full at the third", x.read(0, 0, 0, 4), -22);
        Check.due("rule(0)", x.rule(0), 58);
        Check.due("the last two", x.read(0, 0, 2, 2), 2);
        Check.due("rule(0)", x.rule(0), 60);
        Check.due("full at once", x.read(0, 0, 0, 1), -20);
        Check.due("of none, full", x.read(0, 0, 0, 0), 0);
        Check.due("the machine refuses, full", x.read(0, 0, 4, 1), 0);
        Check.due("torn", x.torn(), 2);
        Check.due("null, full", x.read(1, 0, 0, 1), 0);
        Check.due("torn", x.torn(), 1);
        FoldKeeper many = new FoldKeeper();
        fill(many, 3, 1, "(".repeat(40));
        Check.due("forty", many.read(3, 1, 0, 40), 40);
        Check.due("twenty", many.read(3, 1, 20, 20), 20);
        Check.due("rule(0)", many.rule(0), 60);
    }

    private static void firstMet() {
        FoldKeeper x = Check.holding("b".repeat(59));
        fill(x, 0, 0, "a");
        Check.due("the row's end ahead of full", x.read(0, 0, 0, 2), 1);
        Check.due("torn", x.torn(), 2);
        x.undo();
        fill(x, 0, 0, "a!");
        Check.due("refused at the second", x.read(0, 0, 0, 3), -21);
        Check.due("the row's end behind a sign refused", x.read(0, 0, 1, 2), -20);
    }

    private static void counts() {
        FoldKeeper x = Check.holding("([{a}/))");
        Check.due("count(3)", x.count(3), 3);
        Check.due("count(4)", x.count(4), 3);
        Check.due("count(-1)", x.count(-1), Check.BAD);
        Check.due("count(5)", x.count(5), Check.BAD);
        Check.due("count(max)", x.count(MAX), Check.BAD);
        Check.type(x, "row");
        Check.due("count(1)", x.count(1), 3);
        x.keep(1);
        Check.due("count(0)", x.count(0), 1);
        x.keep(0);
        Check.due("count(0)", x.count(0), 2);
        x.sheet(1, 0, 7);
        Check.due("count(2), sheet 1 is another", x.count(2), Check.NONE);
        x.sheet(0, 0, 7);
        Check.due("count(2)", x.count(2), 7);
        x.turn(0, 1);
        Check.due("count(3)", x.count(3), 2);
        Check.due("count(4)", x.count(4), 4);
    }
}
