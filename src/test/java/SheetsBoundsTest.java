import java.math.BigInteger;

/** Promises 22 to 32 and part 5 of the Terms, at their bounds: each test holds the words that it quotes. */
public final class SheetsBoundsTest extends Harbour {
    private SheetsBoundsTest() { }

    public static void main(String[] args) {
        sheet();
        sheetGetsANewRow();
        lengthsOfARow();
        lose();
        put();
        putCutsToBytes();
        putCutsToShorts();
        putLeavesInts();
        cell();
        cellOfNothing();
        copy();
        copyRefuses();
        copyOfNoCells();
        copyOfNone();
        copyAsTheyWere();
        copyOfAllCells();
        tell();
        tellLeavesOutLent();
        seal();
        as();
        trace();
        traceWraps();
        faultAheadOfAny();
        faultOfTheLatestCall();
        faultOfCallsThatNameNone();
        many();
        lastCallOfAnObject();
        Due.end();
    }

    // ---- promise 22

    private static void sheet() {
        Due.says("A SHEET gets a new row: 1. UNKNOWN; OUTSIDE: lane, n above 60; SIZE.");
        for (Line.Maker maker : new Line.Maker[] {Harbour::full, Harbour::bare, WavePass::new}) {
            Calls.sheet(maker, 0, 0, 5).way(UNKNOWN, 0, NO_SHEET).way(OUTSIDE, 1, NO_LANE)
                .way(OUTSIDE, 2, 61, 62, MAX).way(SIZE, 2, -1, -60, -61, MIN).check();
        }
    }

    private static void sheetGetsANewRow() {
        Due.says("a row of 0 .. 60 numbers (0 at first) of a LANE: 0 bytes, 1 shorts, 2 ints");
        for (int k = 0; k <= 3; k++) {
            for (int lane = 0; lane <= 2; lane++) {
                WavePass x = new WavePass();
                Due.layInts(x, k, 7, MIN, MAX);
                Due.makeFault(x);
                Due.dueNoFault(x, "sheet", x.sheet(k, lane, 3), 1);
                for (int i = 0; i < 3; i++) {
                    Due.dueNoFault(x, "cell", x.cell(k, i, lane), 0);
                }
                lost(x, "no fourth cell", x.cell(k, 3, lane), Due.INDEX);
                lost(x, "another LANE", x.cell(k, 0, (lane + 1) % 3), Due.CAST);
                lost(x, "another LANE", x.cell(k, 0, (lane + 2) % 3), Due.CAST);
                for (int other = 0; other <= 3; other++) {
                    Due.due("other SHEETS have nothing", x.lose(other), other == k ? 1 : 0);
                }
            }
        }
    }

    private static void lost(WavePass x, String call, long got, int fault) {
        Due.due(call, got, Due.LOST);
        Due.due("fault() behind " + call, x.fault(), fault);
    }

    private static void lengthsOfARow() {
        Due.says("a row of 0 .. 60 numbers");
        WavePass x = new WavePass();
        Due.due("a row of 60", x.sheet(0, 2, 60), 1);
        for (int i = 0; i < 60; i++) {
            Due.due("put", x.put(0, i, 1000 + i), 1);
        }
        Due.dueFault(x, "no cell 60", x.put(0, 60, 1), Due.INDEX);
        Due.due("the last cell", x.cell(0, 59, 2), 1059);
        Due.dueNoFault(x, "a row of 61", x.sheet(0, 2, 61), OUTSIDE);
        Due.due("the row of 60 is left", x.cell(0, 59, 2), 1059);
        Due.dueNoFault(x, "a row of none", x.sheet(0, 2, 0), 1);
        lost(x, "no cell 0", x.cell(0, 0, 2), Due.INDEX);
        Due.dueFault(x, "no cell 0", x.put(0, 0, 1), Due.INDEX);
        Due.dueFault(x, "a row of less than none", x.sheet(0, 2, -1), Due.SIZE);
        Due.due("the row of none is left, it is not nothing", x.lose(0), 1);
        Due.due("a row of 60", x.sheet(0, 2, 60), 1);
        for (int i = 0; i < 60; i++) {
            Due.due("all is 0 at first", x.cell(0, i, 2), 0);
        }
    }

    // ---- promise 23

    private static void lose() {
        Due.says("A SHEET has nothing: 1; 0: it had nothing. UNKNOWN.");
        for (Line.Maker maker : new Line.Maker[] {Harbour::full, Harbour::bare, WavePass::new}) {
            Calls.lose(maker, 0).way(UNKNOWN, 0, NO_SHEET).check();
        }
        Calls.lose(Harbour::full).taken(0, 3);
        Line.Maker rows = () -> {
            WavePass x = new WavePass();
            Due.due("sheet", x.sheet(0, 0, 0), 1);
            Due.layInts(x, 3, 1, 2, 3);
            return x;
        };
        Calls.lose(rows).taken(0, 1).taken(0, 2).makes(1, () -> {
            WavePass x = new WavePass();
            Due.layInts(x, 3, 1, 2, 3);
            return x;
        }, 0).makes(1, () -> {
            WavePass x = new WavePass();
            Due.due("sheet", x.sheet(0, 0, 0), 1);
            return x;
        }, 3);
        WavePass x = rows.make();
        Due.due("lose", x.lose(3), 1);
        Due.due("lose again", x.lose(3), 0);
        Due.dueFault(x, "there is nothing", x.put(3, 0, 1), Due.NULL);
        Due.due("a row anew", x.sheet(3, 2, 3), 1);
        Due.due("is 0 at first", x.cell(3, 2, 2), 0);
    }

    // ---- promise 24

    private static void put() {
        Due.says("Cell i of a SHEET becomes v: 1. UNKNOWN; NULL; INDEX.");
        for (int v : new int[] {0, MIN, MAX}) {
            Calls.put(Harbour::full, 0, 0, v).way(UNKNOWN, 0, NO_SHEET).way(NULL, 0, 3)
                .way(INDEX, 1, -1, 27, 28, 60, MIN, MAX).check();
        }
        Line.Maker rows = () -> {
            WavePass x = new WavePass();
            Due.layInts(x, 0, 1, 2, 3);
            Due.layInts(x, 3, 4, 5, 6);
            return x;
        };
        Calls.put(rows, 0, 0, 0).makes(1, () -> {
            WavePass x = new WavePass();
            Due.layInts(x, 0, 9, 2, 3);
            Due.layInts(x, 3, 4, 5, 6);
            return x;
        }, 0, 0, 9).makes(1, () -> {
            WavePass x = new WavePass();
            Due.layInts(x, 0, 1, 2, 3);
            Due.layInts(x, 3, 4, 5, -9);
            return x;
        }, 3, 2, -9).taken(1, 0, 1, 2).way(NULL, 0, 1, 2).way(INDEX, 1, 3).check();
    }

    private static void dueCut(int lane, int v, long cut) {
        WavePass x = new WavePass();
        Due.due("sheet", x.sheet(0, lane, 3), 1);
        Due.due("put", x.put(0, 1, v), 1);
        Due.due(v + " in lane " + lane, x.cell(0, 1, lane), cut);
        Due.due("the cell ahead", x.cell(0, 0, lane), 0);
        Due.due("the cell behind", x.cell(0, 2, lane), 0);
        // A copy of a cell that was cut is the same.
        Due.due("copy", x.copy(0, 1, 0, 2, 1), 1);
        Due.due("a copy of " + v, x.cell(0, 2, lane), cut);
    }

    private static void putCutsToBytes() {
        Due.says("what comes to a cell of it is cut to its LANE (with its sign)");
        int[][] all = {{127, 127}, {128, -128}, {129, -127}, {-128, -128}, {-129, 127}, {255, -1}, {256, 0}, {-1, -1},
            {-256, 0}, {-255, 1}, {32767, -1}, {32768, 0}, {65536 + 200, -56}, {MIN, 0}, {MAX, -1}};
        for (int[] one : all) {
            dueCut(0, one[0], one[1]);
        }
    }

    private static void putCutsToShorts() {
        Due.says("what comes to a cell of it is cut to its LANE (with its sign)");
        int[][] all = {{127, 127}, {128, 128}, {-129, -129}, {255, 255}, {32767, 32767}, {32768, -32768},
            {32769, -32767}, {-32768, -32768}, {-32769, 32767}, {65535, -1}, {65536, 0}, {-1, -1}, {-65536, 0},
            {-65535, 1}, {MIN, 0}, {MAX, -1}};
        for (int[] one : all) {
            dueCut(1, one[0], one[1]);
        }
    }

    private static void putLeavesInts() {
        Due.says("what comes to a cell of it is cut to its LANE (with its sign)");
        for (int v : new int[] {128, -129, 32768, -32769, 65536, MIN, MIN + 1, MAX, -1}) {
            dueCut(2, v, v);
        }
    }

    // ---- promise 25

    private static void cell() {
        Due.says("LOST: UNKNOWN, OUTSIDE: lane; FAULTS CAST (nothing is no CAST), NULL, INDEX.");
        Calls.cell(Harbour::full, 0, 0, 0).way(UNKNOWN, 0, NO_SHEET).way(OUTSIDE, 2, NO_LANE).way(CAST, 0, 1, 2)
            .way(NULL, 0, 3).way(INDEX, 1, -1, 27, 28, 60, MIN, MAX).check();
        Calls.cell(Harbour::full, 2, 0, 2).way(OUTSIDE, 2, NO_LANE).way(CAST, 2, 0, 1)
            .way(INDEX, 1, -1, 40, MIN, MAX).check();
        Calls.cell(Harbour::full, 1, 0, 1).way(OUTSIDE, 2, NO_LANE).way(CAST, 2, 0, 2)
            .way(INDEX, 1, -1, 12, MIN, MAX).check();
        Due.says("Cell i of what a SHEET has, taken as a row of a LANE");
        Calls.cell(Harbour::full).taken('e', 0, 0, 0).taken('0', 0, 26, 0).taken('e', 1, 0, 1).taken('6', 1, 11, 1)
            .taken(0, 2, 0, 2).taken(9, 2, 39, 2);
    }

    private static void cellOfNothing() {
        Due.says("CAST (nothing is no CAST), NULL");
        for (int lane = 0; lane <= 2; lane++) {
            Calls.cell(Harbour::full, 3, 0, lane).always(NULL).way(INDEX, 1, -1, 60, MIN, MAX).check();
            WavePass x = new WavePass();
            Due.due("sheet", x.sheet(0, lane, 3), 1);
            Due.due("lose", x.lose(0), 1);
            for (int asked = 0; asked <= 2; asked++) {
                lost(x, "cell of what was lost", x.cell(0, 0, asked), Due.NULL);
            }
        }
    }

    // ---- promise 26

    /** Rows of ints on sheets 0 and 1, one of shorts on sheet 2, nothing on sheet 3. */
    private static WavePass rows() {
        WavePass x = new WavePass();
        Due.layInts(x, 0, 1, 2, 3, 4, 5);
        Due.layInts(x, 1, 6, 7, 8);
        Due.layText(x, 2, 1, "abcde");
        return x;
    }

    private static Line.Maker rows(int[] first, int[] second) {
        return () -> {
            WavePass x = new WavePass();
            Due.layInts(x, 0, first);
            Due.layInts(x, 1, second);
            Due.layText(x, 2, 1, "abcde");
            return x;
        };
    }

    private static final int[] FIRST = {1, 2, 3, 4, 5}, SECOND = {6, 7, 8};

    private static void copy() {
        Due.says("n cells of a SHEET from i on go to another one (perhaps the same) from j on, as they were: n.");
        Line line = Calls.copy(SheetsBoundsTest::rows);
        line.makes(1, rows(FIRST, new int[] {1, 7, 8}), 0, 0, 1, 0, 1);
        line.makes(1, rows(FIRST, new int[] {6, 7, 5}), 0, 4, 1, 2, 1);
        line.makes(3, rows(FIRST, new int[] {1, 2, 3}), 0, 0, 1, 0, 3);
        line.makes(3, rows(FIRST, new int[] {3, 4, 5}), 0, 2, 1, 0, 3);
        line.makes(3, rows(new int[] {1, 2, 6, 7, 8}, SECOND), 1, 0, 0, 2, 3);
        line.makes(2, rows(new int[] {7, 8, 3, 4, 5}, SECOND), 1, 1, 0, 0, 2);
    }

    private static void copyRefuses() {
        Due.says("UNKNOWN; FAULTS NULL (the first, the other), CAST (unlike LANES), INDEX: i, j, n below 0 or beyond.");
        Calls.copy(SheetsBoundsTest::rows, 0, 0, 1, 0, 3).way(UNKNOWN, 0, NO_SHEET).way(UNKNOWN, 2, NO_SHEET)
            .way(NULL, 0, 3).way(NULL, 2, 3).way(CAST, 2, 2).way(INDEX, 1, -1, 3, 5, 6, MIN, MAX)
            .way(INDEX, 3, -1, 1, 3, 4, MIN, MAX).way(INDEX, 4, -1, 4, 5, MIN, MAX).check();
        Calls.copy(SheetsBoundsTest::rows, 1, 0, 0, 0, 3).way(UNKNOWN, 0, NO_SHEET).way(UNKNOWN, 2, NO_SHEET)
            .way(NULL, 0, 3).way(NULL, 2, 3).way(CAST, 0, 2).way(INDEX, 1, -1, 1, 3, 4, MIN, MAX)
            .way(INDEX, 3, -1, 3, 5, 6, MIN, MAX).way(INDEX, 4, -1, 4, 5, MIN, MAX).check();
        Calls.copy(SheetsBoundsTest::rows, 2, 0, 2, 0, 5).taken(5, 2, 0, 2, 0, 5).way(INDEX, 1, -1, 1, 6, MIN, MAX)
            .way(INDEX, 3, -1, 1, 6, MIN, MAX).way(INDEX, 4, -1, 6, MIN, MAX).check();
        Calls.copy(SheetsBoundsTest::rows, 3, 0, 3, 0, 0).always(NULL).way(INDEX, 1, -1).way(INDEX, 4, -1, 1).check();
        Line.Maker bytes = () -> {
            WavePass x = rows();
            Due.due("sheet", x.sheet(3, 0, 5), 1);
            return x;
        };
        for (int k = 0; k <= 3; k++) {
            for (int other = 0; other <= 3; other++) {
                if (k != other && (k > 1 || other > 1)) {
                    Calls.copy(bytes, k, 0, other, 0, 0).always(CAST).way(INDEX, 1, -1, 9).check();
                }
            }
        }
    }

    private static void copyOfNoCells() {
        Due.says("INDEX (of cells from i on also where i is not 0 .. how many there are, if none of them is taken, too)");
        Calls.copy(SheetsBoundsTest::rows, 0, 0, 1, 0, 0).taken(0, 0, 0, 1, 0, 0).taken(0, 0, 5, 1, 3, 0)
            .taken(0, 0, 5, 1, 0, 0).taken(0, 0, 0, 1, 3, 0).taken(0, 0, 5, 0, 5, 0)
            .way(INDEX, 1, -1, 6, MIN, MAX).way(INDEX, 3, -1, 4, MIN, MAX).check();
    }

    private static void copyOfNone() {
        Due.says("INDEX: i, j, n below 0 or beyond");
        Line.Maker empty = () -> {
            WavePass x = rows();
            Due.due("sheet", x.sheet(3, 2, 0), 1);
            return x;
        };
        Calls.copy(empty, 3, 0, 3, 0, 0).taken(0, 3, 0, 3, 0, 0).taken(0, 3, 0, 0, 5, 0).taken(0, 1, 3, 3, 0, 0)
            .way(INDEX, 1, -1, 1).way(INDEX, 3, -1, 1).way(INDEX, 4, -1, 1, MIN, MAX).check();
        // Numbers whose sums wrap.
        Calls.copy(SheetsBoundsTest::rows, 0, 1, 0, 1, 1).way(INDEX, 1, MAX, MAX - 1, MIN, MIN + 1)
            .way(INDEX, 3, MAX, MAX - 1, MIN, MIN + 1).way(INDEX, 4, MAX, MAX - 1, MIN, MIN + 1).check();
    }

    private static void copyAsTheyWere() {
        Due.says("go to another one (perhaps the same) from j on, as they were");
        Line line = Calls.copy(SheetsBoundsTest::rows);
        line.makes(4, rows(new int[] {1, 1, 2, 3, 4}, SECOND), 0, 0, 0, 1, 4);
        line.makes(4, rows(new int[] {2, 3, 4, 5, 5}, SECOND), 0, 1, 0, 0, 4);
        line.makes(3, rows(new int[] {1, 2, 1, 2, 3}, SECOND), 0, 0, 0, 2, 3);
        line.makes(3, rows(new int[] {3, 4, 5, 4, 5}, SECOND), 0, 2, 0, 0, 3);
        line.makes(1, rows(new int[] {5, 2, 3, 4, 5}, SECOND), 0, 4, 0, 0, 1);
        line.taken(5, 0, 0, 0, 0, 5).taken(2, 0, 3, 0, 3, 2);
    }

    private static void copyOfAllCells() {
        Due.says("a row of 0 .. 60 numbers");
        WavePass x = new WavePass();
        Due.due("sheet", x.sheet(0, 1, 60), 1);
        Due.due("sheet", x.sheet(3, 1, 60), 1);
        for (int i = 0; i < 60; i++) {
            Due.due("put", x.put(0, i, -i * 1000), 1);
        }
        Due.makeFault(x);
        Due.dueNoFault(x, "copy of 60", x.copy(0, 0, 3, 0, 60), 60);
        for (int i = 0; i < 60; i++) {
            Due.due("cell", x.cell(3, i, 1), (short) (-i * 1000));
        }
        Due.dueFault(x, "copy of 61", x.copy(0, 0, 3, 0, 61), Due.INDEX);
        Due.dueNoFault(x, "copy of the last", x.copy(3, 59, 0, 0, 1), 1);
        Due.due("cell", x.cell(0, 0, 1), (short) -59000);
    }

    // ---- promises 27 to 29

    private static int left(int... bodies) {
        BigInteger trace = BigInteger.ZERO;
        for (int body : bodies) {
            trace = trace.multiply(BigInteger.valueOf(31)).add(BigInteger.valueOf(body));
        }
        return trace.intValue();
    }

    private static void tell() {
        Due.says("TELLING of a PASS. UNKNOWN.");
        Calls.tell(Harbour::full, 0).way(UNKNOWN, 0, NO_PASS).check();
        Calls.tell(Harbour::bare, 0).always(UNKNOWN).check();
        Calls.tell(Harbour::two, 0).way(UNKNOWN, 0, 2).check();
        Calls.tell(Harbour::six, 0).way(UNKNOWN, 0, 6).check();
        Due.says("PASS (1): its HEIGHTS together. LENT (2): what PASS's gives, and 100.");
        WavePass x = coastBy("e0;p000;p999;l000;l999;d000;d999");
        int[] told = {0, 27, 100, 127, 100, 154};
        for (int p = 0; p < 6; p++) {
            Due.due("tell", x.tell(p), told[p]);
        }
        x = coastBy("e0;p000;p900;l080;d007");
        Due.due("HEIGHT at PLACE 0", x.tell(1), 9);
        Due.due("HEIGHT at PLACE 1", x.tell(2), 108);
        Due.due("HEIGHT at PLACE 2", x.tell(3), 114);
    }

    private static void tellLeavesOutLent() {
        Due.says("DRAWN (3): what LENT's gives, and what PASS's gives (LENT's left out)");
        WavePass x = coastBy("e0;p123;l123;d123");
        Due.due("DRAWN", x.tell(2), 112);
        Due.due("3, 2, 1, and 1", x.trace(), left(3, 2, 1, 1));
        x = coastBy("e0;p123;l123;d123");
        Due.due("LENT", x.tell(1), 106);
        Due.due("2 and 1", x.trace(), left(2, 1));
        x = coastBy("e0;p123;l123;d123");
        Due.due("PASS", x.tell(0), 6);
        Due.due("1", x.trace(), 1);
    }

    private static void seal() {
        Due.says("How it is SEALED. UNKNOWN.");
        Calls.seal(Harbour::full, 0).way(UNKNOWN, 0, NO_PASS).check();
        Calls.seal(Harbour::bare, 0).always(UNKNOWN).check();
        Calls.seal(Harbour::two, 0).way(UNKNOWN, 0, 2).check();
        Calls.seal(Harbour::six, 0).way(UNKNOWN, 0, 6).check();
        Due.says("SEALED by a lent body (4): its number; DRAWN ones have their own (5): 70");
        WavePass x = coastBy("e0;p000;l000;d000;p000;l000;d000");
        int[] sealed = {0, 1, 70, 3, 4, 70};
        for (int p = 0; p < 6; p++) {
            Due.due("seal", x.seal(p), sealed[p]);
        }
        Due.due("4 or 5 of each", x.trace(), left(4, 4, 5, 4, 4, 5));
    }

    private static void as() {
        Due.says("A PASS, taken as one of a kind: 1. UNKNOWN; OUTSIDE; CAST: it is none "
            + "(each is a PASS, too; a DRAWN one is LENT).");
        int[] noKind = {-1, 3, MIN, MAX};
        Calls.as(Harbour::full, 0, 0).way(UNKNOWN, 0, NO_PASS).way(OUTSIDE, 1, noKind).way(CAST, 1, 1, 2).check();
        Calls.as(Harbour::full, 1, 0).way(UNKNOWN, 0, NO_PASS).way(OUTSIDE, 1, noKind).way(CAST, 1, 2).check();
        Calls.as(Harbour::full, 2, 0).way(UNKNOWN, 0, NO_PASS).way(OUTSIDE, 1, noKind).check();
        Calls.as(Harbour::full).taken(1, 0, 0).taken(1, 1, 0).taken(1, 1, 1).taken(1, 2, 0).taken(1, 2, 1)
            .taken(1, 2, 2).taken(1, 4, 2);
        Calls.as(Harbour::bare, 0, 0).always(UNKNOWN).way(OUTSIDE, 1, noKind).check();
        Calls.as(Harbour::two, 0, 0).way(UNKNOWN, 0, 2).way(CAST, 1, 1, 2).check();
        Calls.as(Harbour::six, 5, 2).taken(1, 5, 2).way(UNKNOWN, 0, 6).check();
    }

    // ---- promise 30

    private static void trace() {
        Due.says("an int that wraps, 0 at first, becomes 31 times it and the number");
        Calls.trace(WavePass::new).taken(0);
        Calls.trace(Harbour::bare).taken(0);
        Calls.trace(Harbour::two).taken(0);
        Calls.trace(Harbour::full).taken(left(3, 2, 1, 1));
        WavePass x = two();
        Due.due("tell of no PASS", x.tell(2), UNKNOWN);
        Due.due("seal of no PASS", x.seal(-1), UNKNOWN);
        Due.due("refused calls leave nothing", x.trace(), 0);
        Due.due("as", x.as(1, 2), 1);
        Due.due("as leaves nothing", x.trace(), 0);
        Due.due("tell", x.tell(0), 0);
        Due.due("seal", x.seal(1), 70);
        Due.due("1 and 5", x.trace(), 36);
    }

    private static void traceWraps() {
        Due.says("TRACE (an int that wraps");
        WavePass x = two();
        // Behind seven bodies it would be 4585435685, which is no int.
        int[] traces = {5, 160, 4965, 153920, 4771525, 147917280, 290468389, 414585472, -32752251, -1015319776};
        for (int k = 0; k < traces.length; k++) {
            Due.due("seal", x.seal(1), 70);
            Due.due("TRACE behind " + (k + 1), x.trace(), traces[k]);
        }
        Due.due("tell", x.tell(0), 0);
        Due.due("TRACE", x.trace(), -1410141979 - 4);
    }

    // ---- promises 31 and 32

    private static void faultAheadOfAny() {
        Due.says("it came to none, or was refused (0 ahead of any)");
        WavePass x = new WavePass();
        Due.due("a new object", x.fault(), 0);
        Due.due("many", x.many(0), 0);
        Due.due("most", x.most(), STATE);
        Due.due("0 ahead of any that names one", x.fault(), 0);
    }

    private static void faultOfTheLatestCall() {
        Due.says("The FAULT of the latest call that names one: 0: it came to none, or was refused");
        WavePass x = full();
        Due.dueFault(x, "NULL", x.put(3, 0, 0), 1);
        Due.dueFault(x, "CAST", x.as(0, 1), 2);
        Due.dueFault(x, "INDEX", x.put(0, 27, 0), 3);
        Due.dueFault(x, "SIZE", x.coast(0, 0, 0, -1), 4);
        Due.dueNoFault(x, "came to none", x.as(0, 0), 1);
        Due.dueFault(x, "NULL", x.copy(0, 0, 3, 0, 0), 1);
        Due.dueNoFault(x, "was refused", x.as(5, 0), UNKNOWN);
        Due.dueFault(x, "CAST", x.voyages(0, 0, 1, 0, 0, 0), 2);
        Due.dueNoFault(x, "was refused behind its FAULTS", x.voyages(32, 2, 2, 0, 0, 0), OUTSIDE);
        Due.dueFault(x, "SIZE", x.sheet(0, 0, -1), 4);
        Due.dueNoFault(x, "a FIRST FAULT is none of the FAULTS", x.coast(0, 0, 1, 26), -100);
        Due.due("told again", x.fault(), 0);
        lost(x, "INDEX", x.cell(0, 27, 0), 3);
        Due.due("told again", x.fault(), 3);
    }

    private static void faultOfCallsThatNameNone() {
        Due.says("The FAULT of the latest call that names one");
        WavePass x = full();
        Due.makeFault(x);
        Line.Call[] all = {(y, a) -> y.ofPass(0, 0), (y, a) -> y.trim(0, 0, 3), (y, a) -> y.slack(4),
            (y, a) -> y.worn(0, 0, 0), (y, a) -> y.off(0, 0, 0), (y, a) -> y.fits(0, 0), (y, a) -> y.match(0, 0),
            (y, a) -> y.last(0), (y, a) -> y.alike(0), (y, a) -> y.most(), (y, a) -> y.letGo(0, 0),
            (y, a) -> y.fewest(0), (y, a) -> y.reading(0, 0, 0, true), (y, a) -> y.back(1), (y, a) -> y.edges(0, 0),
            (y, a) -> y.kinds(0), (y, a) -> y.slacks(), (y, a) -> y.odds(0, 0, 0), (y, a) -> y.lose(3),
            (y, a) -> y.lose(2), (y, a) -> y.tell(0), (y, a) -> y.seal(0), (y, a) -> y.trace(), (y, a) -> y.fault(),
            (y, a) -> y.many(0)};
        for (Line.Call call : all) {
            Due.due("answered", call.on(x, new int[0]) >= 0 ? 1 : 0, 1);
            Due.due("fault() is left", x.fault(), Due.SIZE);
        }
    }

    private static void many() {
        Due.says("How many: 0 PASSES, 1 SLACK, 2 READINGS (0 all without a COAST). OUTSIDE.");
        for (Line.Maker maker : new Line.Maker[] {Harbour::full, Harbour::bare, WavePass::new}) {
            Calls.many(maker, 0).way(OUTSIDE, 0, -1, 3, MIN, MAX).check();
        }
        Calls.many(Harbour::full).taken(5, 0).taken(4, 1).taken(3, 2);
        Calls.many(Harbour::crowded).taken(8, 2);
        Calls.many(Harbour::two).taken(2, 0).taken(0, 1).taken(0, 2);
        Calls.many(Harbour::six).taken(6, 0).taken(9, 1);
        Calls.many(Harbour::bare).taken(0, 0).taken(0, 1).taken(0, 2);
    }

    private static void lastCallOfAnObject() {
        Due.says("An object is used for at most 512 calls after it has been made");
        WavePass x = new WavePass();
        int[] laid = TEXT.chars().toArray();
        Due.layText(x, 0, 0, TEXT);
        Due.due("coast", x.coast(0, 0, 0, laid.length), 2);
        int calls = laid.length + 2;
        for (; calls < 511; calls++) {
            Due.due("worn", x.worn(1, 2, 3), 2);
        }
        Due.due("the 512th call", x.worn(0, 0, 0), 1);
    }
}
