/** Promises 1 to 6: the coast. */
public final class CoastTest {
    private CoastTest() { }

    public static void main(String[] args) {
        newObject();
        coastIsTaken();
        coastWithoutAText();
        firstFaults();
        coastRefusals();
        coastMakesAllAnew();
        coastThatIsNotTakenChangesNothing();
        ofPass();
        trim();
        slack();
        worn();
        Due.end();
    }

    private static void newObject() {
        WavePass x = new WavePass();
        for (int what = 0; what <= 2; what++) {
            Due.due("many of a new object", x.many(what), 0);
        }
        Due.due("trace of a new object", x.trace(), 0);
        Due.due("fault of a new object", x.fault(), 0);
        for (int k = 0; k < 4; k++) {
            for (int lane = 0; lane < 3; lane++) {
                Due.due("cell of a new object", x.cell(k, 0, lane), Due.LOST);
                Due.due("its fault", x.fault(), Due.NULL);
            }
            Due.due("lose of a new object", x.lose(k), 0);
        }
        Due.due("most without a coast", x.most(), -3);
        Due.due("ofPass without a coast", x.ofPass(0, 0), -1);
    }

    private static void coastIsTaken() {
        for (int lane = 0; lane < 3; lane++) {
            WavePass x = new WavePass();
            Due.layText(x, 2, lane, "..e7;p123;l456;d789.");
            Due.makeFault(x);
            Due.dueNoFault(x, "coast within a sheet", x.coast(2, lane, 2, 17), 3);
            Due.due("many(0)", x.many(0), 3);
            Due.due("many(1)", x.many(1), 7);
            Due.due("many(2)", x.many(2), 0);
        }
        String six = "e0;p000;p999;l123;l321;d555;d909";
        WavePass x = Due.coastOf(six);
        int[] kinds = {0, 0, 1, 1, 2, 2};
        for (int p = 0; p < 6; p++) {
            Due.due("kind of " + p, x.ofPass(p, 0), kinds[p]);
            for (int place = 0; place < 3; place++) {
                Due.due("height of " + p, x.ofPass(p, 1 + place), six.charAt(4 + 5 * p + place) - '0');
            }
        }
        Due.due("SLACK 9", Due.coastOf("e9;p000;p000").many(1), 9);
    }

    private static void coastWithoutAText() {
        WavePass x = new WavePass();
        Due.due("sheet without cells", x.sheet(0, 0, 0), 1);
        Due.dueNoFault(x, "coast of no cells", x.coast(0, 0, 0, 0), -100);
        Due.due("sheet", x.sheet(0, 0, 3), 1);
        Due.dueNoFault(x, "coast of no cells at the end", x.coast(0, 0, 3, 0), -100);
        Due.dueFault(x, "coast of no cells beyond", x.coast(0, 0, 4, 0), Due.INDEX);
        Due.dueFault(x, "coast of no cells ahead", x.coast(0, 0, -1, 0), Due.INDEX);
    }

    private static void firstFault(String text, int place) {
        WavePass x = new WavePass();
        Due.layText(x, 1, 1, "e" + text);
        Due.makeFault(x);
        Due.dueNoFault(x, "coast by " + text, x.coast(1, 1, 1, text.length()), -100 - place);
        Due.due("many(0) behind it", x.many(0), 0);
    }

    private static void firstFaults() {
        String whole = "e9;p909;l018;d555;p890;l111;d222";
        for (int n = 0; n < whole.length(); n++) {
            if (n < 12 || n % 5 != 2) {
                firstFault(whole.substring(0, n), n);
            }
            // Neighbours of the digits, a capital, and signs that are fine at other places.
            for (char c : new char[] {'/', ':', 'E', 'P', 'q', 'e', 'p', 'l', 'd', ';', '0', '9', 0}) {
                if (!fineAt(n, c)) {
                    firstFault(whole.substring(0, n) + c + whole.substring(n + 1), n);
                }
            }
        }
        firstFault(whole + ";", 32);
        firstFault(whole + ";p123", 32);
        firstFault(whole + "1", 32);
        firstFault("e1;p123;p1234", 12);
        firstFault("x1;q", 0);
        WavePass x = new WavePass();
        Due.layInts(x, 0, 'e' + 256, '1');
        Due.due("coast by a code above a byte", x.coast(0, 2, 0, 2), -100);
        Due.due("sheet", x.sheet(0, 0, 2), 1);
        Due.due("put", x.put(0, 0, 'e' + 256), 1);
        Due.due("coast by that code cut to a byte", x.coast(0, 0, 0, 2), -101);
    }

    private static boolean fineAt(int place, char c) {
        if (place == 0) {
            return c == 'e';
        }
        int within = (place - 2) % 5;
        if (place > 1 && within == 0) {
            return c == ';';
        }
        if (place > 1 && within == 1) {
            return "pld".indexOf(c) >= 0;
        }
        return c >= '0' && c <= '9';
    }

    private static void coastRefusals() {
        WavePass x = Due.coastOf("e3;p123;l456");
        Due.layText(x, 1, 1, "e3;p123;l456");
        for (int k : new int[] {-1, 4, Integer.MIN_VALUE, Integer.MAX_VALUE}) {
            Due.makeFault(x);
            Due.dueNoFault(x, "coast of no SHEET", x.coast(k, 9, -1, -1), -1);
        }
        for (int lane : new int[] {-1, 3, Integer.MIN_VALUE, Integer.MAX_VALUE}) {
            Due.makeFault(x);
            Due.dueNoFault(x, "coast of no lane", x.coast(2, lane, -1, -1), -2);
        }
        Due.dueFault(x, "coast of shorts as bytes", x.coast(1, 0, -1, -1), Due.CAST);
        Due.dueFault(x, "coast of shorts as ints", x.coast(1, 2, 0, 12), Due.CAST);
        Due.dueFault(x, "coast of nothing", x.coast(2, 0, -1, -1), Due.NULL);
        Due.dueFault(x, "coast of n below 0", x.coast(0, 0, -1, -1), Due.SIZE);
        Due.dueFault(x, "coast of the least n", x.coast(0, 0, 0, Integer.MIN_VALUE), Due.SIZE);
        Due.dueFault(x, "coast from ahead", x.coast(0, 0, -1, 12), Due.INDEX);
        Due.dueFault(x, "coast beyond", x.coast(0, 0, 0, 13), Due.INDEX);
        Due.dueFault(x, "coast beyond by i", x.coast(0, 0, 1, 12), Due.INDEX);
        Due.dueFault(x, "coast where i + n wraps", x.coast(0, 0, 12, Integer.MAX_VALUE), Due.INDEX);
        Due.dueFault(x, "coast from far", x.coast(0, 0, Integer.MAX_VALUE, 1), Due.INDEX);
        Due.dueNoFault(x, "coast again", x.coast(0, 0, 0, 12), 2);
    }

    private static void coastMakesAllAnew() {
        WavePass x = Due.coastOf(Due.FIVE);
        Due.due("tell", x.tell(0), 18);
        Due.due("reading", x.reading(0, 0, 0, true), 0);
        Due.due("trim", x.trim(1, 1, 0), 6);
        Due.layText(x, 1, 2, "e2;l111;d222");
        Due.due("coast", x.coast(1, 2, 0, 12), 2);
        Due.due("many(0)", x.many(0), 2);
        Due.due("many(1)", x.many(1), 2);
        Due.due("no READINGS", x.many(2), 0);
        Due.due("height", x.ofPass(1, 2), 2);
        Due.due("no third pass", x.ofPass(2, 0), -1);
        Due.due("TRACE stays", x.trace(), 1);
        Due.due("sheet 0 stays", x.cell(0, 0, 0), 'e');
        Due.due("sheet 1 stays", x.cell(1, 11, 2), '2');
        Due.due("coast anew", x.coast(0, 0, 0, 27), 5);
        Due.due("trim is gone", x.ofPass(1, 2), 6);
    }

    private static void coastThatIsNotTakenChangesNothing() {
        WavePass x = Due.coastOf(Due.FIVE);
        Due.due("reading", x.reading(0, 0, 0, true), 0);
        Due.layText(x, 1, 0, "e9;d111;d222;");
        Due.due("coast", x.coast(1, 0, 0, 13), -113);
        Due.due("many(0)", x.many(0), 5);
        Due.due("many(1)", x.many(1), 4);
        Due.due("many(2)", x.many(2), 1);
        Due.due("kind", x.ofPass(0, 0), 0);
        Due.due("height", x.ofPass(0, 1), 3);
        Due.dueFault(x, "coast", x.coast(1, 1, 0, 12), Due.CAST);
        Due.due("many(1)", x.many(1), 4);
    }

    private static void ofPass() {
        WavePass x = Due.coastOf("e3;p129;l450");
        Due.makeFault(x);
        int[][] all = {{0, 1, 2, 9}, {1, 4, 5, 0}};
        for (int p = 0; p < 2; p++) {
            for (int what = 0; what < 4; what++) {
                Due.due("ofPass", x.ofPass(p, what), all[p][what]);
            }
        }
        for (int what : new int[] {-1, 4, Integer.MIN_VALUE, Integer.MAX_VALUE}) {
            Due.due("ofPass of no what", x.ofPass(0, what), -2);
            Due.due("ofPass of no pass", x.ofPass(2, what), -1);
        }
        for (int p : new int[] {-1, 2, Integer.MIN_VALUE, Integer.MAX_VALUE}) {
            Due.due("ofPass of no pass", x.ofPass(p, 0), -1);
        }
        Due.due("ofPass names no FAULTS", x.fault(), Due.SIZE);
    }

    private static void trim() {
        WavePass x = Due.coastOf("e3;p129;d450");
        Due.makeFault(x);
        Due.due("trim to 0", x.trim(1, 0, 0), 4);
        Due.due("trim to 9", x.trim(1, 0, 9), 0);
        Due.due("trim place 2", x.trim(1, 2, 7), 0);
        Due.due("height 0", x.ofPass(1, 1), 9);
        Due.due("height 1", x.ofPass(1, 2), 5);
        Due.due("height 2", x.ofPass(1, 3), 7);
        Due.due("the lower half too", x.worn(1, 2, 1), 5);
        Due.due("the other pass stays", x.ofPass(0, 1), 1);
        for (int bad : new int[] {-1, 10, Integer.MIN_VALUE, Integer.MAX_VALUE}) {
            Due.due("trim to no height", x.trim(1, 0, bad), -2);
            Due.due("trim at no place", x.trim(1, bad, 0), -2);
            Due.due("trim of no pass", x.trim(bad, bad, bad), -1);
        }
        Due.due("trim at place 3", x.trim(1, 3, 0), -2);
        Due.due("trim of pass 2", x.trim(2, 3, 10), -1);
        Due.due("height 0 stays", x.ofPass(1, 1), 9);
        Due.due("trim names no FAULTS", x.fault(), Due.SIZE);
    }

    private static void slack() {
        WavePass none = new WavePass();
        Due.due("slack without a coast", none.slack(9), -3);
        Due.due("OUTSIDE ahead of STATE", none.slack(10), -2);
        Due.due("many(1)", none.many(1), 0);
        WavePass x = Due.coastOf("e3;p129;d450");
        Due.makeFault(x);
        Due.due("slack 9", x.slack(9), 3);
        Due.due("slack 0", x.slack(0), 9);
        for (int bad : new int[] {-1, 10, Integer.MIN_VALUE, Integer.MAX_VALUE}) {
            Due.due("slack of " + bad, x.slack(bad), -2);
        }
        Due.due("many(1)", x.many(1), 0);
        Due.due("slack names no FAULTS", x.fault(), Due.SIZE);
    }

    private static void worn() {
        WavePass x = Due.coastOf("e3;p159;l159;d159");
        int[] by = {1, 5, 9};
        for (int m = 0; m <= 9; m++) {
            for (int place = 0; place < 3; place++) {
                Due.due("worn PASS", x.worn(0, place, m), Math.max(0, by[place] - m));
                Due.due("worn LENT", x.worn(1, place, m), Math.max(0, by[place] - m - 1));
                Due.due("worn DRAWN", x.worn(2, place, m), Math.max(0, by[place] - m - m));
            }
        }
        for (int bad : new int[] {-1, 10, Integer.MIN_VALUE, Integer.MAX_VALUE}) {
            Due.due("worn behind no months", x.worn(0, 0, bad), -2);
            Due.due("worn at no place", x.worn(0, bad, 0), -2);
            Due.due("worn of no pass", x.worn(bad, bad, bad), -1);
        }
        Due.due("worn at place 3", x.worn(0, 3, 0), -2);
        Due.due("worn of pass 3", x.worn(3, 0, 0), -1);
    }
}
