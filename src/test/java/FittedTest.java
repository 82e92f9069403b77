/** Promises 16 to 21: what fitted. */
public final class FittedTest {
    private static final int MIN = Integer.MIN_VALUE, MAX = Integer.MAX_VALUE;

    private FittedTest() { }

    public static void main(String[] args) {
        reading();
        back();
        edges();
        edgesOfBothHalves();
        kinds();
        slacks();
        allIsAskedAsItIs();
        odds();
        Due.end();
    }

    private static void reading() {
        WavePass x = Due.coastOf(Due.FIVE);
        Due.makeFault(x);
        Due.due("reading of no upper half", x.reading(5, 0, 10, true), -1);
        Due.due("reading of no lower half", x.reading(0, 5, 10, true), -1);
        Due.due("reading of upper -1", x.reading(-1, 0, 0, true), -1);
        Due.due("reading of lower -1", x.reading(0, -1, 0, true), -1);
        for (int m : new int[] {-1, 10, MIN, MAX}) {
            Due.due("reading behind no months", x.reading(0, 0, m, true), -2);
        }
        Due.due("none is kept", x.many(2), 0);
        for (int k = 0; k < 8; k++) {
            Due.due("reading " + k, x.reading(k % 5, 4 - k % 5, 9 - k, k % 2 == 0), k);
            Due.due("many(2)", x.many(2), k + 1);
        }
        Due.due("a ninth one", x.reading(0, 0, 0, true), -4);
        Due.due("OUTSIDE ahead of FULL", x.reading(0, 0, 10, true), -2);
        Due.due("UNKNOWN ahead of FULL", x.reading(0, 5, 0, true), -1);
        Due.due("many(2)", x.many(2), 8);
        Due.due("back", x.back(1), 7);
        Due.due("an eighth one again", x.reading(0, 0, 0, true), 7);
        Due.due("reading names no FAULTS", x.fault(), Due.SIZE);
        Due.due("reading without a coast", new WavePass().reading(0, 0, 10, true), -1);
    }

    private static void back() {
        WavePass none = new WavePass();
        Due.due("back(0) without a coast", none.back(0), 0);
        Due.due("back(1) without a coast", none.back(1), -2);
        WavePass x = Due.coastOf("e3;p333;p777");
        Due.makeFault(x);
        Due.due("reading", x.reading(0, 0, 0, true), 0);
        Due.due("reading", x.reading(1, 0, 0, false), 1);
        Due.due("reading that is not so", x.reading(1, 1, 0, false), 2);
        Due.due("slacks", x.slacks(), 0);
        for (int k : new int[] {-1, 4, MIN, MAX}) {
            Due.due("back(" + k + ")", x.back(k), -2);
        }
        Due.due("back(0)", x.back(0), 3);
        Due.due("the last one goes", x.back(1), 2);
        Due.due("slacks", x.slacks(), 1023);
        Due.due("back(2)", x.back(2), 0);
        Due.due("back(1)", x.back(1), -2);
        Due.due("back names no FAULTS", x.fault(), Due.SIZE);
    }

    private static void edges() {
        WavePass x = Due.coastOf("e2;p345;p333");
        Due.makeFault(x);
        for (int place = 0; place < 3; place++) {
            Due.due("edges without READINGS", x.edges(0, place), 1023);
        }
        Due.due("reading", x.reading(0, 1, 0, true), 0);
        Due.due("345 is OFF by 3 of 333: none at place 0", x.edges(0, 0), 0);
        Due.due("3x5 with 333: x is 3", x.edges(0, 1), 8);
        Due.due("34x with 333: x is 2, 3, 4", x.edges(0, 2), 4 | 8 | 16);
        Due.due("345 with 33x: x is 4, 5, 6", x.edges(1, 2), 16 | 32 | 64);
        Due.due("reading", x.reading(0, 1, 1, false), 1);
        Due.due("34x fits 333, not 222: x is 2 .. 4", x.edges(0, 2), 4 | 8 | 16);
        Due.due("heights are as they were", x.ofPass(0, 3), 5);
        Due.due("heights are as they were", x.ofPass(1, 3), 3);
        for (int place : new int[] {-1, 3, MIN, MAX}) {
            Due.due("edges at no place", x.edges(0, place), -2);
            Due.due("edges of no pass", x.edges(2, place), -1);
        }
        for (int p : new int[] {-1, 2, MIN, MAX}) {
            Due.due("edges of no pass", x.edges(p, 0), -1);
        }
        Due.due("edges names no FAULTS", x.fault(), Due.SIZE);
    }

    private static void edgesOfBothHalves() {
        WavePass x = Due.coastOf("e4;p003;p999");
        Due.due("reading of its own halves", x.reading(0, 0, 5, true), 0);
        Due.due("00x behind 5 is OFF by x, by 5 at most: 0 to 4", x.edges(0, 2), 31);
        Due.due("back", x.back(1), 0);
        Due.due("reading that they did not fit", x.reading(0, 0, 5, false), 0);
        Due.due("5 to 9", x.edges(0, 2), 1023 - 31);
    }

    private static void kinds() {
        WavePass x = Due.coastOf("e3;d555;p222;p444");
        Due.makeFault(x);
        Due.due("kinds without READINGS", x.kinds(0), 7);
        Due.due("444 fits the lower half behind 0", x.reading(2, 0, 0, true), 0);
        Due.due("555 or 444", x.kinds(0), 7);
        Due.due("555 does not fit behind 1", x.reading(0, 0, 1, false), 1);
        Due.due("444 would fit 555", x.kinds(0), 2 | 4);
        Due.due("222 fits behind 1", x.reading(1, 0, 1, true), 2);
        Due.due("333 of both LENT and DRAWN", x.kinds(0), 2 | 4);
        Due.due("222 fits behind 2", x.reading(1, 0, 2, true), 3);
        Due.due("222 of LENT, 111 of DRAWN", x.kinds(0), 2 | 4);
        Due.due("222 does not fit behind 3", x.reading(1, 0, 3, false), 4);
        Due.due("111 of LENT would fit", x.kinds(0), 4);
        Due.due("as it was", x.ofPass(0, 0), 2);
        Due.due("an upper half is of no kind", x.kinds(1), 7);
        Due.due("no kind", x.reading(0, 1, 0, true), 5);
        Due.due("no kind", x.kinds(0), 0);
        Due.due("as it was", x.ofPass(0, 0), 2);
        for (int p : new int[] {-1, 3, MIN, MAX}) {
            Due.due("kinds of no pass", x.kinds(p), -1);
        }
        Due.due("kinds names no FAULTS", x.fault(), Due.SIZE);
    }

    private static void slacks() {
        Due.due("slacks without a coast", new WavePass().slacks(), -3);
        WavePass x = Due.coastOf("e4;p345;p333;p999");
        Due.makeFault(x);
        Due.due("slacks without READINGS", x.slacks(), 1023);
        Due.due("OFF by 3", x.reading(0, 1, 0, true), 0);
        Due.due("3 or more", x.slacks(), 1023 - 7);
        Due.due("OFF by 6", x.reading(0, 1, 1, false), 1);
        Due.due("3 to 5", x.slacks(), 8 | 16 | 32);
        Due.due("OFF by 18, and did fit", x.reading(2, 1, 0, true), 2);
        Due.due("none", x.slacks(), 0);
        Due.due("as it was", x.many(1), 4);
        Due.due("slacks names no FAULTS", x.fault(), Due.SIZE);
    }

    private static void allIsAskedAsItIs() {
        WavePass x = Due.coastOf("e4;p345;p333");
        Due.due("reading", x.reading(0, 1, 0, true), 0);
        Due.due("by how it is: 3 or more", x.slacks(), 1023 - 7);
        Due.due("trim", x.trim(0, 2, 9), 5);
        Due.due("by how it is: 7 or more", x.slacks(), 1023 - 127);
        Due.due("34x by 4: 0 .. 6", x.edges(0, 2), 127);
        Due.due("slack", x.slack(7), 4);
        Due.due("34x by 7: all", x.edges(0, 2), 1023);
        Due.due("a READING that is not so is kept", x.slack(0), 7);
        Due.due("many(2)", x.many(2), 1);
    }

    private static void odds() {
        WavePass x = Due.coastOf("e3;p333;p334;p335;p336;p343;p344");
        Due.makeFault(x);
        Due.due("all six fit: 63", x.odds(0, 0, 0), 63);
        Due.due("of 64", x.odds(0, 0, 1), 64);
        Due.due("slack", x.slack(1), 3);
        Due.due("333, 334, 343: 7", x.odds(0, 0, 0), 7);
        Due.due("of 8", x.odds(0, 0, 1), 8);
        Due.due("trim", x.trim(0, 0, 9), 3);
        Due.due("its own alone: 1", x.odds(0, 0, 0), 1);
        Due.due("of 2", x.odds(0, 0, 1), 2);
        Due.due("none: 0", x.odds(0, 9, 0), 0);
        Due.due("of 1", x.odds(0, 9, 1), 1);
        for (int bad : new int[] {-1, 10, MIN, MAX}) {
            Due.due("odds of no pass", x.odds(bad, 0, 0), Due.LOST);
            Due.due("odds behind no months", x.odds(0, bad, 0), Due.LOST);
            Due.due("odds of no which", x.odds(0, 0, bad), Due.LOST);
        }
        Due.due("odds of pass 6", x.odds(6, 0, 0), Due.LOST);
        Due.due("odds of which 2", x.odds(0, 0, 2), Due.LOST);
        Due.due("odds names no FAULTS", x.fault(), Due.SIZE);
        Due.due("odds without a coast", new WavePass().odds(0, 0, 1), Due.LOST);
    }
}
