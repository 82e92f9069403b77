/** Promises 22 to 32: sheets, parts. */
public final class SheetsTest {
    private static final int MIN = Integer.MIN_VALUE, MAX = Integer.MAX_VALUE;
    private static final int[] NO_SHEET = {-1, 4, MIN, MAX};

    private SheetsTest() { }

    public static void main(String[] args) {
        sheet();
        lose();
        put();
        cell();
        copy();
        copyRefusals();
        tell();
        seal();
        as();
        trace();
        fault();
        many();
        Due.end();
    }

    private static void sheet() {
        WavePass x = new WavePass();
        Due.makeFault(x);
        Due.dueNoFault(x, "sheet of 60", x.sheet(0, 1, 60), 1);
        Due.due("put at the end", x.put(0, 59, 7), 1);
        Due.due("a new row", x.sheet(0, 2, 60), 1);
        Due.due("is of 0", x.cell(0, 59, 2), 0);
        Due.due("put", x.put(0, 0, 7), 1);
        Due.due("a new row of none", x.sheet(0, 2, 0), 1);
        Due.dueFault(x, "has no cell", x.put(0, 0, 1), Due.INDEX);
        Due.due("a new row of one", x.sheet(0, 2, 1), 1);
        Due.due("is of 0", x.cell(0, 0, 2), 0);
        for (int k : NO_SHEET) {
            Due.makeFault(x);
            Due.dueNoFault(x, "no SHEET", x.sheet(k, 3, -1), -1);
        }
        for (int lane : new int[] {-1, 3, MIN, MAX}) {
            Due.makeFault(x);
            Due.dueNoFault(x, "no lane", x.sheet(0, lane, -1), -2);
        }
        for (int n : new int[] {61, MAX}) {
            Due.makeFault(x);
            Due.dueNoFault(x, "n above 60", x.sheet(0, 0, n), -2);
        }
        Due.dueFault(x, "n below 0", x.sheet(0, 0, -1), Due.SIZE);
        Due.dueFault(x, "the least n", x.sheet(1, 0, MIN), Due.SIZE);
        Due.due("the row stays", x.cell(0, 0, 2), 0);
        Due.due("nothing stays", x.lose(1), 0);
    }

    private static void lose() {
        WavePass x = new WavePass();
        Due.due("sheet", x.sheet(3, 0, 5), 1);
        Due.due("empty sheet", x.sheet(2, 0, 0), 1);
        Due.dueFault(x, "put", x.put(3, 5, 1), Due.INDEX);
        Due.due("lose", x.lose(3), 1);
        Due.due("lose again", x.lose(3), 0);
        Due.due("lose a row without cells", x.lose(2), 1);
        for (int k : NO_SHEET) {
            Due.due("lose no SHEET", x.lose(k), -1);
        }
        Due.due("lose names no FAULTS", x.fault(), Due.INDEX);
        Due.dueFault(x, "put to nothing", x.put(3, 0, 1), Due.NULL);
        Due.due("sheet of another lane", x.sheet(3, 2, 1), 1);
        Due.due("cell", x.cell(3, 0, 2), 0);
    }

    private static void put() {
        WavePass x = new WavePass();
        int[] all = {0, 1, -1, 127, 128, -128, -129, 255, 256, 32767, 32768, -32768, -32769, 65535, 65536, MIN, MAX};
        for (int lane = 0; lane < 3; lane++) {
            Due.due("sheet", x.sheet(lane, lane, 2), 1);
            for (int v : all) {
                Due.makeFault(x);
                Due.dueNoFault(x, "put", x.put(lane, 1, v), 1);
                long cut = lane == 0 ? (byte) v : lane == 1 ? (short) v : v;
                Due.due("cell", x.cell(lane, 1, lane), cut);
                Due.due("the other cell", x.cell(lane, 0, lane), 0);
            }
        }
        for (int k : NO_SHEET) {
            Due.makeFault(x);
            Due.dueNoFault(x, "put to no SHEET", x.put(k, -1, 0), -1);
        }
        Due.dueFault(x, "put to nothing", x.put(3, -1, 0), Due.NULL);
        for (int i : new int[] {-1, 2, MIN, MAX}) {
            Due.dueFault(x, "put beyond", x.put(0, i, 0), Due.INDEX);
        }
        Due.due("cell stays", x.cell(0, 1, 0), -1);
    }

    private static void lost(WavePass x, String call, long got, int fault) {
        Due.due(call, got, Due.LOST);
        Due.due("fault() behind " + call, x.fault(), fault);
    }

    private static void cell() {
        WavePass x = new WavePass();
        Due.layInts(x, 1, 5, MIN, MAX);
        Due.makeFault(x);
        Due.dueNoFault(x, "cell 0", x.cell(1, 0, 2), 5);
        Due.dueNoFault(x, "cell 1", x.cell(1, 1, 2), MIN);
        Due.dueNoFault(x, "cell 2", x.cell(1, 2, 2), MAX);
        for (int k : NO_SHEET) {
            Due.makeFault(x);
            lost(x, "cell of no SHEET", x.cell(k, -1, 3), 0);
        }
        for (int lane : new int[] {-1, 3, MIN, MAX}) {
            Due.makeFault(x);
            lost(x, "cell of no lane", x.cell(0, -1, lane), 0);
        }
        lost(x, "cell of ints as bytes", x.cell(1, -1, 0), Due.CAST);
        lost(x, "cell of ints as shorts", x.cell(1, 0, 1), Due.CAST);
        lost(x, "cell of nothing", x.cell(0, -1, 1), Due.NULL);
        for (int i : new int[] {-1, 3, MIN, MAX}) {
            lost(x, "cell beyond", x.cell(1, i, 2), Due.INDEX);
        }
    }

    private static void dueRow(WavePass x, int k, int... row) {
        for (int i = 0; i < row.length; i++) {
            Due.due("cell " + i + " of " + k, x.cell(k, i, 2), row[i]);
        }
        lost(x, "cell beyond the row", x.cell(k, row.length, 2), Due.INDEX);
    }

    private static void copy() {
        WavePass x = new WavePass();
        Due.layInts(x, 0, 1, 2, 3, 4, 5);
        Due.layInts(x, 1, 9, 9, 9);
        Due.makeFault(x);
        Due.dueNoFault(x, "copy", x.copy(0, 3, 1, 1, 2), 2);
        dueRow(x, 1, 9, 4, 5);
        Due.due("copy onto itself, up", x.copy(0, 0, 0, 1, 4), 4);
        dueRow(x, 0, 1, 1, 2, 3, 4);
        Due.due("copy onto itself, down", x.copy(0, 1, 0, 0, 4), 4);
        dueRow(x, 0, 1, 2, 3, 4, 4);
        Due.due("copy onto the same cells", x.copy(0, 0, 0, 0, 5), 5);
        dueRow(x, 0, 1, 2, 3, 4, 4);
        Due.makeFault(x);
        Due.dueNoFault(x, "copy of none", x.copy(0, 5, 1, 3, 0), 0);
        dueRow(x, 1, 9, 4, 5);
        Due.due("sheet of bytes", x.sheet(2, 0, 1), 1);
        Due.due("sheet of bytes", x.sheet(3, 0, 1), 1);
        Due.due("put", x.put(2, 0, -5), 1);
        Due.due("copy of bytes", x.copy(2, 0, 3, 0, 1), 1);
        Due.due("cell", x.cell(3, 0, 0), -5);
    }

    private static void copyRefusals() {
        WavePass x = new WavePass();
        Due.layInts(x, 0, 1, 2, 3);
        Due.due("sheet", x.sheet(1, 1, 3), 1);
        for (int k : NO_SHEET) {
            Due.makeFault(x);
            Due.dueNoFault(x, "copy from no SHEET", x.copy(k, -1, 2, -1, -1), -1);
            Due.makeFault(x);
            Due.dueNoFault(x, "copy to no SHEET", x.copy(2, -1, k, -1, -1), -1);
        }
        Due.dueFault(x, "copy from nothing", x.copy(2, -1, 0, -1, -1), Due.NULL);
        Due.dueFault(x, "copy to nothing", x.copy(0, -1, 2, -1, -1), Due.NULL);
        Due.dueFault(x, "copy of nothing to itself", x.copy(2, 0, 2, 0, 0), Due.NULL);
        Due.dueFault(x, "copy of ints to shorts", x.copy(0, -1, 1, -1, -1), Due.CAST);
        Due.dueFault(x, "copy of shorts to ints", x.copy(1, 0, 0, 0, 0), Due.CAST);
        int[][] beyond = {{-1, 0, 1}, {0, -1, 1}, {0, 0, -1}, {0, 0, 4}, {1, 0, 3}, {0, 1, 3}, {4, 0, 0}, {0, 4, 0},
            {-1, 0, 0}, {0, -1, 0}, {1, 1, MAX}, {MAX, 0, 1}, {0, MAX, 1}, {MIN, 0, MIN}, {0, 0, MIN}};
        for (int[] b : beyond) {
            Due.dueFault(x, "copy beyond", x.copy(0, b[0], 0, b[1], b[2]), Due.INDEX);
        }
        dueRow(x, 0, 1, 2, 3);
    }

    private static int left(int trace, int... bodies) {
        int now = trace;
        for (int body : bodies) {
            now = now * 31 + body;
        }
        return now;
    }

    private static void tell() {
        WavePass x = Due.coastOf("e3;p129;l450;d987");
        Due.makeFault(x);
        Due.due("tell PASS", x.tell(0), 12);
        Due.due("trace", x.trace(), 1);
        Due.due("tell LENT", x.tell(1), 109);
        Due.due("trace", x.trace(), left(1, 2, 1));
        Due.due("tell DRAWN", x.tell(2), 24 + 100 + 24);
        int now = left(1, 2, 1, 3, 2, 1, 1);
        Due.due("trace", x.trace(), now);
        for (int p : new int[] {-1, 3, MIN, MAX}) {
            Due.due("tell of no pass", x.tell(p), -1);
        }
        Due.due("trace stays", x.trace(), now);
        Due.due("trim", x.trim(0, 0, 9), 1);
        Due.due("tell as it is", x.tell(0), 20);
        Due.due("tell names no FAULTS", x.fault(), Due.SIZE);
    }

    private static void seal() {
        WavePass x = Due.coastOf("e3;d129;p450;l987;d111;l222");
        Due.makeFault(x);
        int[] all = {70, 1, 2, 70, 4};
        int now = 0;
        for (int p = 0; p < 5; p++) {
            Due.due("seal", x.seal(p), all[p]);
            now = left(now, all[p] == 70 ? 5 : 4);
            Due.due("trace", x.trace(), now);
        }
        for (int p : new int[] {-1, 5, MIN, MAX}) {
            Due.due("seal of no pass", x.seal(p), -1);
        }
        Due.due("trace stays", x.trace(), now);
        Due.due("seal names no FAULTS", x.fault(), Due.SIZE);
    }

    private static void as() {
        WavePass x = Due.coastOf("e3;p129;l450;d987");
        for (int p = 0; p < 3; p++) {
            for (int kind = 0; kind < 3; kind++) {
                Due.makeFault(x);
                if (kind <= p) {
                    Due.dueNoFault(x, "as", x.as(p, kind), 1);
                } else {
                    Due.dueFault(x, "as", x.as(p, kind), Due.CAST);
                }
            }
        }
        for (int kind : new int[] {-1, 3, MIN, MAX}) {
            Due.makeFault(x);
            Due.dueNoFault(x, "as no kind", x.as(2, kind), -2);
            Due.makeFault(x);
            Due.dueNoFault(x, "as of no pass", x.as(3, kind), -1);
            Due.makeFault(x);
            Due.dueNoFault(x, "as of no pass", x.as(kind, 0), -1);
        }
        Due.due("as leaves nothing in TRACE", x.trace(), 0);
    }

    private static void trace() {
        WavePass x = Due.coastOf("e3;p129;d987");
        int now = 0;
        for (int k = 0; k < 50; k++) {
            x.tell(1);
            now = left(now, 3, 2, 1, 1);
            x.seal(0);
            now = left(now, 4);
            Due.due("trace wraps", x.trace(), now);
        }
        Due.due("trace changes nothing", x.trace(), now);
        Due.due("coast", x.coast(0, 0, 0, 12), 2);
        Due.due("trace stays", x.trace(), now);
    }

    private static void fault() {
        WavePass x = new WavePass();
        Due.due("0 ahead of any", x.fault(), 0);
        Due.due("NULL", x.put(0, 0, 0), -11);
        Due.due("fault", x.fault(), Due.NULL);
        Due.due("fault again", x.fault(), Due.NULL);
        x.trace();
        x.lose(0);
        x.many(9);
        x.back(0);
        x.most();
        Due.due("calls that name none leave it", x.fault(), Due.NULL);
        Due.due("refused", x.put(9, 0, 0), -1);
        Due.due("fault of a refused one", x.fault(), 0);
    }

    private static void many() {
        WavePass x = Due.coastOf("e3;p129;d987");
        Due.makeFault(x);
        Due.due("reading", x.reading(0, 0, 0, true), 0);
        Due.due("PASSES", x.many(0), 2);
        Due.due("SLACK", x.many(1), 3);
        Due.due("READINGS", x.many(2), 1);
        for (int what : new int[] {-1, 3, MIN, MAX}) {
            Due.due("many of no what", x.many(what), -2);
        }
        Due.due("many names no FAULTS", x.fault(), Due.SIZE);
    }
}
