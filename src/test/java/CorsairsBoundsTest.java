/** Promises 13 to 15 and part 3 of the Terms, at their bounds: each test holds the words that it quotes. */
public final class CorsairsBoundsTest extends Harbour {
    private static final int[] NO_PAIRS = {-1, 21, MIN, MAX};
    private static final int[] NO_WHAT = {-1, 4, 9, 16, MIN, MAX};
    private static final int[] ALL_WHAT = {0, 1, 2, 3, 10, 11, 12, 13, 14, 15};

    private CorsairsBoundsTest() { }

    public static void main(String[] args) {
        letGo();
        letGoWithoutACoast();
        letGoByNone();
        fewest();
        fewestOfSeveral();
        fewestOfNone();
        voyagesRefuse();
        voyagesWithoutACoast();
        voyagesOfNothing();
        voyagesOfNoPairs();
        fewestAndMostPairs();
        whatLeastAndGreatest();
        sheetsAndLanesLeastAndGreatest();
        lastCells();
        pairByPair();
        cellsThatAreNoPass();
        cellsThatAreNoMonths();
        pairsAheadOfAnyAct();
        cellsThatAreNotTold();
        firstWrong();
        firstWrongOfSeveral();
        answersWithAFirstWrong();
        firstTaken();
        takenThatWereGood();
        howOftenAPassIsTaken();
        Due.end();
    }

    // ---- promise 13

    private static void letGo() {
        Due.says("PASSES whose ships are let go behind m MONTHS (0 .. 9) by who HOLDS a set of upper halves, as a set. "
            + "STATE: there is no COAST; OUTSIDE: set (of PASSES that there are), m.");
        Calls.letGo(Harbour::full, 0, 0).way(OUTSIDE, 0, NO_SET).way(OUTSIDE, 1, NO_MONTHS).check();
        Calls.letGo(Harbour::full).taken(0, 0, 0).taken(31, 31, 0).taken(0, 31, 9).taken(11, 1, 0).taken(16, 16, 0)
            .taken(27, 31, 1);
        Calls.letGo(Harbour::two, 0, 0).taken(3, 3, 0).taken(1, 3, 1).taken(3, 1, 9).taken(0, 2, 9)
            .way(OUTSIDE, 0, 4, 5, 7).check();
        Calls.letGo(Harbour::six, 0, 0).taken(63, 63, 0).taken(33, 32, 0).way(OUTSIDE, 0, 64, 65, 127).check();
    }

    private static void letGoWithoutACoast() {
        Due.says("STATE: there is no COAST; OUTSIDE: set");
        for (Line.Maker maker : new Line.Maker[] {WavePass::new, Harbour::bare}) {
            Calls.letGo(maker, 0, 0).always(STATE).way(OUTSIDE, 0, -1, 1, MIN, MAX).way(OUTSIDE, 1, NO_MONTHS).check();
        }
    }

    private static void letGoByNone() {
        Due.says("lets go a ship whose lower half one of them FITS; else it is TAKEN");
        WavePass x = coastBy("e3;p000;p001;p003;p004");
        Due.due("who HOLDS none", x.letGo(0, 0), 0);
        Due.due("OFF by just SLACK", x.letGo(1, 0), 7);
        Due.due("OFF by just SLACK", x.letGo(8, 0), 14);
        Due.due("either of two", x.letGo(9, 0), 15);
        Due.due("it is the lower half that is worn", x.letGo(8, 1), 12);
        Due.due("worn to nothing", x.letGo(8, 9), 0);
    }

    // ---- promise 14

    private static void fewest() {
        Due.says("FEWEST behind m MONTHS (0 .. 9), as a set; NONE. OUTSIDE; STATE: there is no COAST.");
        Calls.fewest(Harbour::full, 0).way(OUTSIDE, 0, NO_MONTHS).check();
        Calls.fewest(Harbour::bare, 0).way(OUTSIDE, 0, NO_MONTHS).always(STATE).check();
        Calls.fewest(WavePass::new, 9).way(OUTSIDE, 0, NO_MONTHS).always(STATE).check();
        Calls.fewest(Harbour::full).taken(21, 0).taken(NONE, 1).taken(NONE, 9);
        Calls.fewest(Harbour::two).taken(3, 0).taken(NONE, 1).taken(1, 9);
    }

    private static void fewestOfSeveral() {
        Due.says("the fewest upper halves by which ships of all PASSES are let go: as a set: of several the least");
        Due.due("{1, 2} is less than {0, 4} and {1, 4}",
            coastBy("e3;p312;p232;p000;p033;p030;p330").fewest(0), 6);
        Due.due("{0} of all that are the same", coastBy("e0;p555;p555;p555;p555;p555;p555").fewest(0), 1);
        Due.due("{1} alone is fewer than {0, 2}", coastBy("e1;p001;p002;p003").fewest(0), 2);
        Due.due("{5} alone is fewer than any two", coastBy("e2;p355;p755;p535;p575;p553;p555").fewest(0), 32);
        Due.due("all of six", coastBy("e0;p000;p001;p002;p003;p004;p005").fewest(0), 63);
    }

    private static void fewestOfNone() {
        Due.says("NONE: there is none");
        WavePass x = coastBy("e2;l111;p000;p001;p011");
        Due.due("000 lets go the LENT one", x.fewest(0), 2);
        Due.due("trim", x.trim(0, 0, 9), 1);
        Due.due("800 is let go by none", x.fewest(0), NONE);
        Due.due("000 is let go again behind 8", x.fewest(8), 2);
        Due.due("600 behind 2 is let go by none", x.fewest(2), NONE);
    }

    // ---- promise 15: refusals and faults

    private static Line refusing(Line line) {
        return line.way(UNKNOWN, 1, NO_SHEET).way(OUTSIDE, 2, NO_LANE).way(OUTSIDE, 4, NO_PAIRS)
            .way(OUTSIDE, 5, NO_WHAT).way(CAST, 1, 0, 1).way(NULL, 1, 3).way(INDEX, 3, -1, 1, 40, 41, MIN, MAX);
    }

    private static void voyagesRefuse() {
        Due.says("UNKNOWN: SHEET; OUTSIDE: lane, n (0 .. 20), what (0 .. 3, 10 .. 15); FAULTS CAST, NULL, INDEX; "
            + "STATE: there is no COAST; OUTSIDE: set");
        refusing(Calls.voyages(Harbour::full, 31, 2, 2, 0, 20, 0)).way(OUTSIDE, 0, NO_SET).check();
        Calls.voyages(Harbour::two, 0, 3, 0, 0, 0, 0).always(NULL).way(OUTSIDE, 0, 4).check();
    }

    private static void voyagesWithoutACoast() {
        Due.says("STATE: there is no COAST; OUTSIDE: set; pair by pair");
        refusing(Calls.voyages(Harbour::bare, 0, 2, 2, 0, 20, 0)).always(STATE).way(OUTSIDE, 0, -1, 1, MIN, MAX).check();
        Line.Maker wild = () -> {
            WavePass x = new WavePass();
            Due.layInts(x, 2, MIN, MAX, 7, 10);
            return x;
        };
        Calls.voyages(wild, 0, 2, 2, 0, 2, 1).always(STATE).way(OUTSIDE, 0, -1, 1).check();
        Calls.voyages(wild, 0, 2, 2, 4, 0, 1).always(STATE).way(OUTSIDE, 0, -1, 1).check();
    }

    private static void voyagesOfNothing() {
        Due.says("FAULTS CAST, NULL, INDEX");
        for (int lane = 0; lane <= 2; lane++) {
            Calls.voyages(Harbour::full, 31, 3, lane, 0, 1, 0).always(NULL).way(INDEX, 3, -1, MAX)
                .way(OUTSIDE, 0, -1, 32).check();
        }
    }

    private static void voyagesOfNoPairs() {
        Due.says("INDEX (of cells from i on also where i is not 0 .. how many there are, if none of them is taken, too)");
        for (int i : new int[] {0, 1, 39, 40}) {
            Calls.voyages(Harbour::full).taken(0, 31, 2, 2, i, 0, 0).taken(NONE, 31, 2, 2, i, 0, 1)
                .taken(NONE, 31, 2, 2, i, 0, 2).taken(0, 31, 2, 2, i, 0, 3).taken(0, 31, 2, 2, i, 0, 14)
                .taken(NONE, 31, 2, 2, i, 0, 15);
        }
        Calls.voyages(Harbour::full, 31, 2, 2, 0, 0, 0).way(INDEX, 3, -1, 41, MIN, MAX).way(OUTSIDE, 0, NO_SET).check();
    }

    // ---- promise 15: what is taken

    private static void fewestAndMostPairs() {
        Due.says("VOYAGES of n pairs, that are cells of a SHEET from i on (2 n)");
        // By all upper halves pairs 0, 1, 3 and 5 of full() are let go.
        Calls.voyages(Harbour::full).taken(0, 31, 2, 2, 0, 0, 0).taken(1, 31, 2, 2, 0, 1, 0)
            .taken(4, 31, 2, 2, 0, 19, 0).taken(4, 31, 2, 2, 0, 20, 0).taken(NONE, 31, 2, 2, 0, 20, 1)
            .taken(2, 31, 2, 2, 0, 20, 2).taken(0, 0, 2, 2, 0, 20, 0).taken(4, 0, 2, 2, 0, 20, 14);
    }

    private static void whatLeastAndGreatest() {
        Due.says("what (0 .. 3, 10 .. 15)");
        // By the upper half 369 pairs 0 and 1 are let go; 3 and 5 are TAKEN, pair 3 was GOOD (267 behind 1).
        int[] due = {2, NONE, 2, 1, 3, 3, 4, 4, 4, NONE};
        for (int k = 0; k < ALL_WHAT.length; k++) {
            Calls.voyages(Harbour::full).taken(due[k], 1, 2, 2, 0, 20, ALL_WHAT[k]);
        }
        Line.Maker six = () -> {
            WavePass x = six();
            Due.layInts(x, 3, 5, 0, 5, 9);
            return x;
        };
        Calls.voyages(six).taken(1, 32, 3, 2, 0, 2, 15).taken(0, 63, 3, 2, 0, 1, 15).taken(2, 0, 3, 2, 0, 2, 15);
    }

    private static void sheetsAndLanesLeastAndGreatest() {
        Due.says("UNKNOWN: SHEET; OUTSIDE: lane");
        for (int k = 0; k <= 3; k++) {
            for (int lane = 0; lane <= 2; lane++) {
                WavePass x = two();
                Due.due("sheet", x.sheet(k, lane, 2), 1);
                Due.makeFault(x);
                Due.dueNoFault(x, "let go", x.voyages(3, k, lane, 0, 1, 0), 1);
                for (int other = 0; other <= 2; other++) {
                    if (other != lane) {
                        Due.dueFault(x, "another lane", x.voyages(3, k, other, 0, 1, 0), Due.CAST);
                    }
                }
            }
        }
    }

    private static void lastCells() {
        Due.says("FAULTS CAST, NULL, INDEX");
        WavePass x = two();
        Due.due("sheet", x.sheet(0, 1, 60), 1);
        Due.due("put", x.put(0, 58, 1), 1);
        Due.dueNoFault(x, "the last pair", x.voyages(1, 0, 1, 58, 1, 11), 1);
        Due.dueFault(x, "half of it is not there", x.voyages(1, 0, 1, 59, 1, 11), Due.INDEX);
        Due.dueFault(x, "none of it is there", x.voyages(1, 0, 1, 60, 1, 11), Due.INDEX);
        Due.dueNoFault(x, "the last 20 pairs", x.voyages(1, 0, 1, 20, 20, 0), 19);
        Due.dueFault(x, "a cell too far", x.voyages(1, 0, 1, 21, 20, 0), Due.INDEX);
    }

    // ---- promise 15: pair by pair

    /** full(), with cells of sheet 2 told anew: a place and a number, by turns. */
    private static Line.Maker told(int... placesAndNumbers) {
        return () -> {
            WavePass x = full();
            for (int k = 0; k < placesAndNumbers.length; k += 2) {
                Due.due("put", x.put(2, placesAndNumbers[k], placesAndNumbers[k + 1]), 1);
            }
            return x;
        };
    }

    private static void duePair(int code, int... placesAndNumbers) {
        for (int what : new int[] {0, 1, 3, 15}) {
            Calls.voyages(told(placesAndNumbers), 31, 2, 2, 0, 20, what).way(OUTSIDE, 0, NO_SET).always(code).check();
        }
    }

    private static void pairByPair() {
        Due.says("pair by pair (all of them, ahead of any act) UNKNOWN: a cell is no PASS, OUTSIDE: no MONTHS 0 .. 9");
        duePair(UNKNOWN, 0, 5);
        duePair(OUTSIDE, 1, 10);
        duePair(UNKNOWN, 0, 5, 1, 10);
        duePair(OUTSIDE, 1, 10, 2, 5);
        duePair(UNKNOWN, 2, 5, 5, 10);
        duePair(OUTSIDE, 37, 10, 38, 5);
        duePair(UNKNOWN, 36, 5, 39, 10);
        refusing(Calls.voyages(told(0, 5), 31, 2, 2, 0, 20, 1)).way(OUTSIDE, 0, NO_SET).always(UNKNOWN).check();
        refusing(Calls.voyages(told(1, 10), 31, 2, 2, 0, 20, 1)).way(OUTSIDE, 0, NO_SET).always(OUTSIDE).check();
    }

    private static void cellsThatAreNoPass() {
        Due.says("UNKNOWN: a cell is no PASS");
        for (int v : new int[] {-1, 5, 6, 256, 65536, MIN, MAX}) {
            Calls.voyages(told(0, v), 31, 2, 2, 0, 1, 0).always(UNKNOWN).check();
            Calls.voyages(told(38, v), 31, 2, 2, 38, 1, 1).always(UNKNOWN).check();
        }
        Calls.voyages(told(0, 0)).taken(1, 31, 2, 2, 0, 1, 0);
        Calls.voyages(told(0, 4)).taken(1, 31, 2, 2, 0, 1, 0);
        WavePass x = two();
        Due.layInts(x, 0, 1, 0, 2, 0);
        Due.dueNoFault(x, "the second PASS of two", x.voyages(3, 0, 2, 0, 1, 0), 1);
        Due.dueNoFault(x, "no third PASS", x.voyages(3, 0, 2, 0, 2, 0), UNKNOWN);
        x = six();
        Due.layInts(x, 0, 5, 0, 6, 0);
        Due.dueNoFault(x, "the sixth PASS", x.voyages(63, 0, 2, 0, 1, 0), 1);
        Due.dueNoFault(x, "no seventh PASS", x.voyages(63, 0, 2, 0, 2, 0), UNKNOWN);
    }

    private static void cellsThatAreNoMonths() {
        Due.says("OUTSIDE: no MONTHS 0 .. 9");
        for (int v : new int[] {-1, 10, 11, 256, 65536, MIN, MAX}) {
            Calls.voyages(told(1, v), 31, 2, 2, 0, 1, 0).always(OUTSIDE).check();
            Calls.voyages(told(39, v), 31, 2, 2, 38, 1, 1).always(OUTSIDE).check();
        }
        Calls.voyages(told(1, 0)).taken(1, 31, 2, 2, 0, 1, 0);
        Calls.voyages(told(1, 9)).taken(0, 31, 2, 2, 0, 1, 0);
        for (int lane = 0; lane <= 1; lane++) {
            WavePass x = two();
            Due.due("sheet", x.sheet(0, lane, 2), 1);
            Due.due("put", x.put(0, 1, -1), 1);
            Due.dueNoFault(x, "MONTHS below 0", x.voyages(3, 0, lane, 0, 1, 0), OUTSIDE);
            Due.due("put", x.put(0, 1, 65536 + 9), 1);
            Due.dueNoFault(x, "MONTHS cut to their LANE", x.voyages(3, 0, lane, 0, 1, 0), 1);
            Due.due("put", x.put(0, 0, -1), 1);
            Due.dueNoFault(x, "a PASS below 0", x.voyages(3, 0, lane, 0, 1, 0), UNKNOWN);
        }
    }

    private static void pairsAheadOfAnyAct() {
        Due.says("(all of them, ahead of any act)");
        // Pair 1 is the FIRST WRONG, and the last pair is none.
        for (int what : ALL_WHAT) {
            Calls.voyages(told(1, 9, 38, 5), 31, 2, 2, 0, 20, what).always(UNKNOWN).check();
            Calls.voyages(told(1, 9, 39, 10), 31, 2, 2, 0, 20, what).always(OUTSIDE).check();
        }
    }

    private static void cellsThatAreNotTold() {
        Due.says("VOYAGES of n pairs, that are cells of a SHEET from i on (2 n)");
        Line.Maker wild = told(0, MIN, 1, MAX, 4, 5, 5, 10);
        Calls.voyages(wild).taken(1, 31, 2, 2, 2, 1, 0).taken(NONE, 31, 2, 2, 2, 1, 1);
        Calls.voyages(wild, 31, 2, 2, 2, 2, 0).always(UNKNOWN).check();
        Calls.voyages(wild, 31, 2, 2, 0, 2, 0).always(UNKNOWN).check();
        Calls.voyages(told(0, 0, 1, 1, 2, 2, 3, 3)).taken(NONE, 31, 2, 2, 1, 1, 1).taken(0, 4, 2, 2, 1, 1, 0);
    }

    // ---- promise 15: answers

    private static void dueFirstWrong(int wrong, int... months) {
        WavePass x = two();
        int[] cells = new int[2 * months.length];
        for (int k = 0; k < months.length; k++) {
            cells[2 * k + 1] = months[k];
        }
        Due.layInts(x, 0, cells);
        Due.dueNoFault(x, "FIRST WRONG", x.voyages(3, 0, 2, 0, months.length, 1), wrong);
        Due.dueNoFault(x, "let go", x.voyages(3, 0, 2, 0, months.length, 0), wrong == NONE ? months.length : -100 - wrong);
    }

    private static void firstWrong() {
        Due.says("FIRST WRONG: the first (pairs are numbered from 0 on) whose MONTHS are less than those of the one ahead");
        dueFirstWrong(NONE, 9);
        dueFirstWrong(NONE, 0, 0);
        dueFirstWrong(NONE, 9, 9);
        dueFirstWrong(NONE, 0, 9);
        dueFirstWrong(1, 9, 0);
        dueFirstWrong(1, 1, 0);
        dueFirstWrong(1, 9, 8);
        dueFirstWrong(2, 3, 3, 2);
        dueFirstWrong(19, 1, 1, 1, 1, 1, 1, 1, 1, 1, 1, 1, 1, 1, 1, 1, 1, 1, 1, 1, 0);
        dueFirstWrong(NONE, 0, 0, 0, 0, 0, 0, 0, 0, 0, 0, 0, 0, 0, 0, 0, 0, 0, 0, 0, 1);
        dueFirstWrong(NONE);
    }

    private static void firstWrongOfSeveral() {
        Due.says("the first (pairs are numbered from 0 on)");
        dueFirstWrong(1, 5, 4, 3, 2);
        dueFirstWrong(1, 5, 3, 4);
        dueFirstWrong(2, 0, 5, 4, 9, 0);
        // Numbered from the first pair that is told, not from the first cell of the SHEET.
        Calls.voyages(told(5, 9)).taken(3, 31, 2, 2, 0, 20, 1).taken(1, 31, 2, 2, 4, 18, 1).taken(NONE, 31, 2, 2, 6, 17, 1)
            .taken(NONE, 31, 2, 2, 0, 3, 1).taken(-101, 31, 2, 2, 4, 18, 0);
    }

    private static void answersWithAFirstWrong() {
        Due.says("of those with a FIRST WRONG: -100 less that (but what 1)");
        for (int what : ALL_WHAT) {
            Calls.voyages(told(39, 8)).taken(what == 1 ? 19 : -119, 31, 2, 2, 0, 20, what)
                .taken(what == 1 ? 19 : -119, 0, 2, 2, 0, 20, what);
            Calls.voyages(told(1, 1)).taken(what == 1 ? 1 : -101, 31, 2, 2, 0, 20, what);
        }
    }

    private static void firstTaken() {
        Due.says("the first pair that is TAKEN (2; NONE)");
        Calls.voyages(Harbour::full).taken(0, 0, 2, 2, 0, 20, 2).taken(2, 31, 2, 2, 0, 20, 2)
            .taken(NONE, 31, 2, 2, 0, 2, 2).taken(0, 31, 2, 2, 4, 1, 2).taken(1, 31, 2, 2, 6, 2, 2)
            .taken(NONE, 0, 2, 2, 0, 0, 2);
        WavePass x = two();
        int[] cells = new int[40];
        cells[38] = 1;
        Due.layInts(x, 0, cells);
        Due.dueNoFault(x, "the last of twenty", x.voyages(1, 0, 2, 0, 20, 2), 19);
        Due.dueNoFault(x, "none of twenty", x.voyages(3, 0, 2, 0, 20, 2), NONE);
        Due.dueNoFault(x, "all of twenty are let go", x.voyages(3, 0, 2, 0, 20, 0), 20);
    }

    private static void takenThatWereGood() {
        Due.says("how many of those that are TAKEN were GOOD (3)");
        WavePass x = coastBy("e3;p333;p900;l111");
        Due.layInts(x, 0, 0, 0, 1, 0, 2, 0, 0, 1, 0, 2, 1, 3, 1, 4);
        Due.dueNoFault(x, "who HOLDS none: 0, 1, 2, 3 and 5 were GOOD", x.voyages(0, 0, 2, 0, 7, 3), 5);
        Due.dueNoFault(x, "by 333: 1, 2 and 5 were GOOD", x.voyages(1, 0, 2, 0, 7, 3), 3);
        Due.dueNoFault(x, "by 900: 0, 2 and 3 were GOOD", x.voyages(2, 0, 2, 0, 7, 3), 3);
        Due.dueNoFault(x, "by all none was GOOD", x.voyages(7, 0, 2, 0, 7, 3), 0);
        Due.dueNoFault(x, "by all 111 lets go 333 behind 2", x.voyages(7, 0, 2, 0, 7, 0), 6);
        Due.dueNoFault(x, "the first pair alone was not GOOD", x.voyages(0, 0, 2, 12, 1, 3), 0);
        Due.dueNoFault(x, "the first pair alone was GOOD", x.voyages(0, 0, 2, 10, 1, 3), 1);
        Due.dueNoFault(x, "of none", x.voyages(0, 0, 2, 0, 0, 3), 0);
    }

    private static void howOftenAPassIsTaken() {
        Due.says("how often PASS p is TAKEN (10 and p; NONE: there is no such PASS)");
        Line.Maker two = () -> {
            WavePass x = two();
            Due.layInts(x, 1, 0, 0, 1, 0, 1, 0);
            return x;
        };
        Calls.voyages(two).taken(1, 0, 1, 2, 0, 3, 10).taken(2, 0, 1, 2, 0, 3, 11).taken(NONE, 0, 1, 2, 0, 3, 12)
            .taken(NONE, 0, 1, 2, 0, 3, 15).taken(0, 3, 1, 2, 0, 3, 11).taken(2, 1, 1, 2, 0, 3, 11)
            .taken(0, 1, 1, 2, 0, 3, 10);
    }
}
