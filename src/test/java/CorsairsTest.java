/** Promises 13 to 15: corsairs. */
public final class CorsairsTest {
    private static final int MIN = Integer.MIN_VALUE, MAX = Integer.MAX_VALUE;

    private CorsairsTest() { }

    public static void main(String[] args) {
        letGo();
        fewest();
        voyagesAnswer();
        voyagesWithoutPairs();
        voyagesOfOneSlice();
        firstWrong();
        voyagesRefusals();
        voyagesPairByPair();
        voyagesWithoutACoast();
        Due.end();
    }

    private static void letGo() {
        WavePass none = new WavePass();
        Due.due("STATE ahead of OUTSIDE", none.letGo(-1, 10), -3);
        WavePass x = Due.coastOf("e3;p333;p444;l444;d900");
        Due.makeFault(x);
        Due.due("nothing is held", x.letGo(0, 0), 0);
        Due.due("333 lets go 333, 444 and 333 that was 444", x.letGo(1, 0), 1 | 2 | 4);
        Due.due("900 lets go itself", x.letGo(8, 0), 8);
        Due.due("all are held", x.letGo(15, 0), 15);
        Due.due("444 behind 1", x.letGo(2, 1), 2);
        Due.due("two of them behind 1", x.letGo(9, 1), 1 | 2 | 4 | 8);
        Due.due("behind 9", x.letGo(15, 9), 0);
        Due.due("a set beyond the passes", x.letGo(16, 0), -2);
        for (int bad : new int[] {-1, 16, 17, MIN, MAX}) {
            Due.due("letGo by no set", x.letGo(bad, 0), -2);
        }
        for (int bad : new int[] {-1, 10, MIN, MAX}) {
            Due.due("letGo behind no months", x.letGo(1, bad), -2);
        }
        Due.due("letGo names no FAULTS", x.fault(), Due.SIZE);
    }

    private static void fewest() {
        WavePass none = new WavePass();
        Due.due("fewest without a coast", none.fewest(0), -3);
        Due.due("OUTSIDE ahead of STATE", none.fewest(10), -2);
        WavePass x = Due.coastOf("e3;p333;p444;l444;d900");
        Due.makeFault(x);
        Due.due("fewest behind 0", x.fewest(0), 1 | 8);
        Due.due("slack", x.slack(2), 3);
        Due.due("each lets go but itself", x.fewest(0), 1 | 2 | 8);
        Due.due("900 alone is GOOD behind 1", x.fewest(1), -9);
        for (int bad : new int[] {-1, 10, MIN, MAX}) {
            Due.due("fewest behind no months", x.fewest(bad), -2);
        }
        Due.due("fewest names no FAULTS", x.fault(), Due.SIZE);
        Due.due("the middle one", Due.coastOf("e1;p001;p002;p003").fewest(0), 2);
        Due.due("of several the least", Due.coastOf("e1;p001;p002;p006;p007").fewest(0), 1 | 4);
        Due.due("two of a high number ahead of three",
                Due.coastOf("e2;p000;p003;p008;p004;p001;p006").fewest(0), 16 | 32);
        Due.due("no fewer than all", Due.coastOf("e0;p000;p111;p222;p333").fewest(0), 15);
        Due.due("behind 9, all are worn to nothing", Due.coastOf("e9;p999;p009;d555").fewest(9), 2);
    }

    /** Behind 0: upper 333 fits passes 0, 1, 2. Pass 3 is let go by its own alone. */
    private static WavePass withVoyages() {
        WavePass x = Due.coastOf("e3;p333;p444;l444;d900");
        Due.layInts(x, 1, 3, 0, 0, 0, 1, 0, 3, 1, 0, 1, 0, 5, 3, 5);
        return x;
    }

    private static void voyagesAnswer() {
        WavePass x = withVoyages();
        Due.makeFault(x);
        Due.dueNoFault(x, "let go by 333", x.voyages(1, 1, 2, 0, 7, 0), 3);
        Due.due("no FIRST WRONG", x.voyages(1, 1, 2, 0, 7, 1), -9);
        Due.due("first TAKEN by 333", x.voyages(1, 1, 2, 0, 7, 2), 0);
        Due.due("TAKEN that were GOOD: pair 0 and pair 3", x.voyages(1, 1, 2, 0, 7, 3), 2);
        Due.due("pass 0 is TAKEN", x.voyages(1, 1, 2, 0, 7, 10), 1);
        Due.due("pass 1 is TAKEN", x.voyages(1, 1, 2, 0, 7, 11), 0);
        Due.due("pass 2 is TAKEN", x.voyages(1, 1, 2, 0, 7, 12), 0);
        Due.due("pass 3 is TAKEN", x.voyages(1, 1, 2, 0, 7, 13), 3);
        Due.due("no pass 4", x.voyages(1, 1, 2, 0, 7, 14), -9);
        Due.due("no pass 5", x.voyages(1, 1, 2, 0, 7, 15), -9);
        Due.due("a first pair that was not GOOD", x.voyages(1, 1, 2, 10, 2, 3), 0);
        Due.due("let go by 333 and 900", x.voyages(9, 1, 2, 0, 7, 0), 5);
        Due.due("first TAKEN by 333 and 900", x.voyages(9, 1, 2, 0, 7, 2), 5);
        Due.due("none of those was GOOD", x.voyages(9, 1, 2, 0, 7, 3), 0);
        Due.due("let go by who HOLDS none", x.voyages(0, 1, 2, 0, 7, 0), 0);
        Due.due("none is TAKEN", x.voyages(9, 1, 2, 0, 5, 2), -9);
        Due.due("fault", x.fault(), 0);
    }

    private static void voyagesWithoutPairs() {
        WavePass x = withVoyages();
        for (int i : new int[] {0, 7, 14}) {
            Due.due("let go", x.voyages(1, 1, 2, i, 0, 0), 0);
            Due.due("FIRST WRONG", x.voyages(1, 1, 2, i, 0, 1), -9);
            Due.due("first TAKEN", x.voyages(1, 1, 2, i, 0, 2), -9);
            Due.due("GOOD ones", x.voyages(1, 1, 2, i, 0, 3), 0);
            Due.due("of pass 3", x.voyages(1, 1, 2, i, 0, 13), 0);
            Due.due("of no pass", x.voyages(1, 1, 2, i, 0, 14), -9);
        }
        Due.dueFault(x, "no pairs beyond", x.voyages(1, 1, 2, 15, 0, 0), Due.INDEX);
        Due.dueFault(x, "no pairs ahead", x.voyages(1, 1, 2, -1, 0, 0), Due.INDEX);
    }

    private static void voyagesOfOneSlice() {
        WavePass x = withVoyages();
        Due.due("from an odd place on, (0,0) (0,1)", x.voyages(1, 1, 2, 1, 2, 0), 2);
        Due.due("the last pair", x.voyages(1, 1, 2, 12, 1, 13), 1);
        Due.due("sheet", x.sheet(2, 0, 60), 1);
        Due.due("20 pairs of (0, 0)", x.voyages(1, 2, 0, 20, 20, 0), 20);
        Due.due("20 pairs are TAKEN", x.voyages(0, 2, 0, 20, 20, 10), 20);
        Due.due("and were GOOD", x.voyages(0, 2, 0, 20, 20, 3), 20);
        Due.due("sheet", x.sheet(2, 1, 4), 1);
        Due.due("put", x.put(2, 3, 9), 1);
        Due.due("shorts", x.voyages(1, 2, 1, 0, 2, 2), 1);
    }

    private static void firstWrong() {
        WavePass x = Due.coastOf(Due.FIVE);
        Due.layInts(x, 1, 0, 5, 1, 5, 2, 6, 3, 4, 4, 3);
        Due.makeFault(x);
        for (int what : new int[] {0, 2, 3, 10, 14, 15}) {
            Due.dueNoFault(x, "with a FIRST WRONG", x.voyages(31, 1, 2, 0, 5, what), -103);
        }
        Due.dueNoFault(x, "FIRST WRONG", x.voyages(31, 1, 2, 0, 5, 1), 3);
        Due.due("equal months are fine", x.voyages(31, 1, 2, 0, 3, 1), -9);
        Due.due("numbered from 0 on in the slice", x.voyages(31, 1, 2, 6, 2, 1), 1);
    }

    private static void voyagesRefusals() {
        WavePass x = withVoyages();
        for (int k : new int[] {-1, 4, MIN, MAX}) {
            Due.makeFault(x);
            Due.dueNoFault(x, "no SHEET", x.voyages(-1, k, 9, -1, -1, 9), -1);
        }
        for (int lane : new int[] {-1, 3, MIN, MAX}) {
            Due.makeFault(x);
            Due.dueNoFault(x, "no lane", x.voyages(-1, 2, lane, -1, 0, 0), -2);
        }
        for (int n : new int[] {-1, 21, MIN, MAX}) {
            Due.makeFault(x);
            Due.dueNoFault(x, "no n", x.voyages(-1, 2, 0, -1, n, 0), -2);
        }
        for (int what : new int[] {-1, 4, 9, 16, MIN, MAX}) {
            Due.makeFault(x);
            Due.dueNoFault(x, "no what", x.voyages(-1, 2, 0, -1, 0, what), -2);
        }
        Due.dueFault(x, "ints as bytes", x.voyages(-1, 1, 0, -1, 0, 0), Due.CAST);
        Due.dueFault(x, "bytes as shorts", x.voyages(-1, 0, 1, -1, 0, 0), Due.CAST);
        Due.dueFault(x, "nothing", x.voyages(-1, 2, 0, -1, 0, 0), Due.NULL);
        Due.dueFault(x, "beyond", x.voyages(-1, 1, 2, 0, 8, 0), Due.INDEX);
        Due.dueFault(x, "beyond by i", x.voyages(-1, 1, 2, 1, 7, 0), Due.INDEX);
        Due.dueFault(x, "ahead", x.voyages(-1, 1, 2, -1, 1, 0), Due.INDEX);
        Due.dueFault(x, "far", x.voyages(-1, 1, 2, MAX, 20, 0), Due.INDEX);
        for (int set : new int[] {-1, 16, MIN, MAX}) {
            Due.makeFault(x);
            Due.dueNoFault(x, "no set", x.voyages(set, 1, 2, 0, 7, 0), -2);
            Due.dueNoFault(x, "no set, for what 1", x.voyages(set, 1, 2, 0, 0, 1), -2);
        }
    }

    private static void voyagesPairByPair() {
        WavePass x = withVoyages();
        Due.layInts(x, 2, 0, 5, 1, 10, 4, 0);
        Due.makeFault(x);
        Due.dueNoFault(x, "no MONTHS ahead of no PASS", x.voyages(1, 2, 2, 0, 3, 1), -2);
        Due.due("put", x.put(2, 3, -1), 1);
        Due.due("months below 0", x.voyages(1, 2, 2, 0, 3, 0), -2);
        Due.due("put", x.put(2, 3, 4), 1);
        Due.makeFault(x);
        Due.dueNoFault(x, "no PASS, ahead of the FIRST WRONG", x.voyages(1, 2, 2, 0, 3, 0), -1);
        Due.due("put", x.put(2, 4, -1), 1);
        Due.due("a PASS below 0", x.voyages(1, 2, 2, 0, 3, 1), -1);
        Due.due("put", x.put(2, 5, 99), 1);
        Due.due("no PASS ahead of no MONTHS", x.voyages(1, 2, 2, 0, 3, 1), -1);
        Due.due("the first pair is looked at", x.voyages(1, 2, 2, 4, 1, 1), -1);
        Due.due("put", x.put(2, 4, 0), 1);
        Due.due("the first pair is looked at", x.voyages(1, 2, 2, 4, 1, 1), -2);
        Due.due("only the pairs that are told", x.voyages(1, 2, 2, 0, 2, 1), 1);
        Due.due("a set that is none ahead of pairs", x.voyages(16, 2, 2, 0, 3, 1), -2);
    }

    private static void voyagesWithoutACoast() {
        WavePass x = new WavePass();
        Due.layInts(x, 1, 9, 99);
        Due.makeFault(x);
        Due.dueNoFault(x, "STATE ahead of set and pairs", x.voyages(-1, 1, 2, 0, 1, 1), -3);
        Due.dueFault(x, "INDEX ahead of STATE", x.voyages(0, 1, 2, 0, 2, 1), Due.INDEX);
        Due.dueFault(x, "NULL ahead of STATE", x.voyages(0, 0, 2, 0, 2, 1), Due.NULL);
        Due.dueNoFault(x, "OUTSIDE ahead of STATE", x.voyages(0, 0, 3, 0, 2, 1), -2);
        Due.dueNoFault(x, "STATE without pairs", x.voyages(0, 1, 2, 0, 0, 0), -3);
    }
}
