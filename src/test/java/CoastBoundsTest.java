/** Promises 1 to 6 and part 1 of the Terms, at their bounds: each test holds the words that it quotes. */
public final class CoastBoundsTest extends Harbour {
    private static final String SIX = "e9;p909;l018;d555;p890;l111;d222";

    private CoastBoundsTest() { }

    public static void main(String[] args) {
        newObjectHasNoPasses();
        newObjectHasNoRows();
        numbersOfRefusalsAndFaults();
        coastRefuses();
        coastWithoutACoastRefuses();
        nothingIsNoCast();
        noCellsAreTaken();
        allCellsAreThere();
        sheetsAndLanesOfATextLeastAndGreatest();
        fewestAndMostPasses();
        seventhPass();
        slackOfAText();
        lettersOfAText();
        heightsOfAText();
        textThatEndsTooSoon();
        firstOfSeveralFaults();
        codesByTheirNumbers();
        codesThatAreNotCut();
        textThatIsNotTaken();
        textThatIsTaken();
        sameTextTakenAgain();
        ofPass();
        trim();
        trimCutsBothHalves();
        slack();
        worn();
        wornByKinds();
        upperHalfStays();
        Due.end();
    }

    // ---- promise 1

    private static void newObjectHasNoPasses() {
        Due.says("No COAST (no PASSES)");
        Line.Maker none = WavePass::new;
        for (int what = 0; what <= 2; what++) {
            Calls.many(none).taken(0, what);
        }
        Calls.ofPass(none, 0, 0).always(UNKNOWN).check();
        Calls.tell(none, 0).always(UNKNOWN).check();
        Calls.seal(none, 0).always(UNKNOWN).check();
        Calls.most(none).always(STATE).check();
        Calls.slacks(none).always(STATE).check();
        Calls.trace(none).taken(0);
        Due.due("fault() of a new object", new WavePass().fault(), 0);
    }

    private static void newObjectHasNoRows() {
        Due.says("SHEETS have nothing");
        for (int k = 0; k <= 3; k++) {
            Calls.lose(WavePass::new).taken(0, k);
            Calls.put(WavePass::new, k, 0, 1).always(NULL).check();
            for (int lane = 0; lane <= 2; lane++) {
                Calls.cell(WavePass::new, k, 0, lane).always(NULL).check();
            }
        }
    }

    private static void numbersOfRefusalsAndFaults() {
        Due.says("UNKNOWN = -1, OUTSIDE = -2, STATE = -3, FULL = -4, NONE = -9");
        Due.due("UNKNOWN", WavePass.UNKNOWN, UNKNOWN);
        Due.due("OUTSIDE", WavePass.OUTSIDE, OUTSIDE);
        Due.due("STATE", WavePass.STATE, STATE);
        Due.due("FULL", WavePass.FULL, FULL);
        Due.due("NONE", WavePass.NONE, NONE);
        Due.due("LOST", WavePass.LOST, Long.MIN_VALUE);
        Due.says("it answers -10 less it");
        WavePass x = bare();
        Due.due("1 NULL", x.put(3, 0, 0), -11);
        Due.due("2 CAST", x.coast(0, 1, 0, 0), -12);
        Due.due("3 INDEX", x.put(0, 27, 0), -13);
        Due.due("4 SIZE", x.sheet(0, 0, -1), -14);
        Due.says("LOST, where a long is answered, as for refusals");
        Due.due("a refusal", x.cell(4, 0, 0), Long.MIN_VALUE);
        Due.due("a fault", x.cell(0, 27, 0), Long.MIN_VALUE);
        Due.due("a refusal without FAULTS", x.odds(0, 0, 0), Long.MIN_VALUE);
    }

    // ---- promise 2: refusals and faults

    private static void coastRefuses() {
        Due.says("UNKNOWN; OUTSIDE: lane; FAULTS CAST (nothing is no CAST), NULL, SIZE: n is below 0, "
            + "INDEX: not all cells are there");
        coastWays(Calls.coast(Harbour::full, 1, 1, 0, 12));
        coastWays(Calls.coast(Harbour::crowded, 1, 1, 0, 12));
    }

    private static void coastWithoutACoastRefuses() {
        Due.says("they change nothing");
        coastWays(Calls.coast(Harbour::bare, 1, 1, 0, 12));
    }

    private static void coastWays(Line line) {
        line.way(UNKNOWN, 0, NO_SHEET).way(OUTSIDE, 1, NO_LANE).way(CAST, 0, 0, 2).way(NULL, 0, 3)
            .way(SIZE, 3, -1, MIN).way(INDEX, 2, -1, 1, 12, 13, MIN, MAX).way(INDEX, 3, 13, MAX).check();
    }

    private static void nothingIsNoCast() {
        Due.says("CAST (nothing is no CAST), NULL");
        Line.Maker lost = () -> {
            WavePass x = full();
            Due.due("lose", x.lose(0), 1);
            return x;
        };
        for (int lane = 0; lane <= 2; lane++) {
            Calls.coast(Harbour::full, 3, lane, 0, 12).always(NULL).way(SIZE, 3, -1).way(INDEX, 2, -1, MAX).check();
            Calls.coast(lost, 0, lane, 0, 0).always(NULL).check();
        }
    }

    private static void noCellsAreTaken() {
        Due.says("INDEX (of cells from i on also where i is not 0 .. how many there are, if none of them is taken, too)");
        for (int i : new int[] {0, 1, 11, 12}) {
            Calls.coast(Harbour::full).taken(-100, 1, 1, i, 0);
        }
        Calls.coast(Harbour::full, 1, 1, 0, 0).way(INDEX, 2, -1, 13, MIN, MAX).check();
        Line.Maker empty = () -> {
            WavePass x = full();
            Due.due("sheet", x.sheet(3, 2, 0), 1);
            return x;
        };
        Calls.coast(empty, 3, 2, 0, 0).taken(-100, 3, 2, 0, 0).way(INDEX, 2, -1, 1, MIN, MAX).check();
    }

    private static void allCellsAreThere() {
        Due.says("INDEX: not all cells are there");
        WavePass x = new WavePass();
        Due.due("sheet", x.sheet(0, 0, 60), 1);
        for (int i = 0; i < 12; i++) {
            Due.due("put", x.put(0, 48 + i, TEXT.charAt(i)), 1);
        }
        Due.dueFault(x, "a cell too many", x.coast(0, 0, 48, 13), Due.INDEX);
        Due.dueFault(x, "a place too far", x.coast(0, 0, 49, 12), Due.INDEX);
        Due.due("no PASSES", x.many(0), 0);
        Due.dueNoFault(x, "the last cells", x.coast(0, 0, 48, 12), 2);
        Due.dueNoFault(x, "all cells, the first of which is 0", x.coast(0, 0, 0, 60), -100);
        Due.due("PASSES", x.many(0), 2);
    }

    private static void sheetsAndLanesOfATextLeastAndGreatest() {
        Due.says("A COAST by a TEXT of n cells of a SHEET from i on, taken as a row of a LANE: how many PASSES");
        for (int k : new int[] {0, 3}) {
            for (int lane : new int[] {0, 2}) {
                WavePass x = new WavePass();
                Due.layText(x, k, lane, TEXT);
                Due.makeFault(x);
                Due.dueNoFault(x, "coast", x.coast(k, lane, 0, 12), 2);
            }
        }
    }

    // ---- promise 2: texts

    /** sheet 1 has the text behind two cells that are none of it; all else is such that a change would be seen. */
    private static WavePass withText(int lane, int... codes) {
        WavePass x = Due.coastOf("e4;p369;l468");
        Due.due("reading", x.reading(0, 1, 0, true), 0);
        Due.due("tell", x.tell(1), 118);
        Due.due("sheet", x.sheet(1, lane, codes.length + 2), 1);
        Due.due("put", x.put(1, 0, 'e'), 1);
        Due.due("put", x.put(1, 1, '1'), 1);
        for (int i = 0; i < codes.length; i++) {
            Due.due("put", x.put(1, i + 2, codes[i]), 1);
        }
        return x;
    }

    private static void dueWrong(String text, int place) {
        int[] codes = text.chars().toArray();
        Calls.coast(() -> withText(1, codes)).taken(-100 - place, 1, 1, 2, codes.length);
    }

    private static void dueTaken(String text) {
        WavePass x = withText(1, text.chars().toArray());
        Due.dueNoFault(x, "coast by " + text, x.coast(1, 1, 2, text.length()), (text.length() - 2) / 5);
        Due.due("SLACK of " + text, x.many(1), text.charAt(1) - '0');
        for (int p = 0; p < (text.length() - 2) / 5; p++) {
            String one = text.substring(3 + 5 * p, 7 + 5 * p);
            Due.due("kind of " + one, x.ofPass(p, 0), "pld".indexOf(one.charAt(0)));
            for (int place = 0; place < 3; place++) {
                Due.due("HEIGHT of " + one, x.ofPass(p, 1 + place), one.charAt(1 + place) - '0');
            }
        }
        Due.due("a PASS more", x.ofPass((text.length() - 2) / 5, 0), UNKNOWN);
    }

    private static void fewestAndMostPasses() {
        Due.says("then 2 to 6 PASSES");
        dueWrong(SIX.substring(0, 2), 2);
        dueWrong(SIX.substring(0, 7), 7);
        for (int passes = 2; passes <= 6; passes++) {
            dueTaken(SIX.substring(0, 2 + 5 * passes));
        }
    }

    private static void seventhPass() {
        Due.says("the first code with which no TEXT goes on (the ; of a seventh PASS)");
        dueWrong(SIX + ";", 32);
        dueWrong(SIX + ";p", 32);
        dueWrong(SIX + ";p123", 32);
        dueWrong(SIX + ";p123;l456;d789", 32);
        dueWrong(SIX + "p", 32);
        dueWrong(SIX + "0", 32);
    }

    private static void slackOfAText() {
        Due.says("e, a digit 0 .. 9 (SLACK)");
        for (char digit = '0'; digit <= '9'; digit++) {
            dueTaken("e" + digit + ";p123;l456");
        }
        for (char code : new char[] {'/', ':', ';', 'e', 'p', '-', ' ', 0, 9, 127}) {
            dueWrong("e" + code + ";p123;l456", 1);
        }
        for (char code : new char[] {'d', 'f', 'E', '0', 'p', ';', 0, 127}) {
            dueWrong(code + "4;p123;l456", 0);
        }
        dueWrong("4;p123;l456", 0);
        dueWrong("e;p123;l456", 1);
        dueWrong("e10;p123;l456", 2);
    }

    private static void lettersOfAText() {
        Due.says("Kinds: 0 PASS (p); 1 LENT one (l), a PASS; 2 DRAWN one (d), a LENT one");
        for (char letter : new char[] {'p', 'l', 'd'}) {
            dueTaken("e4;" + letter + "123;p456");
            dueTaken("e4;p123;" + letter + "456");
        }
        for (char code : new char[] {'o', 'q', 'k', 'm', 'c', 'e', 'P', 'L', 'D', ';', '0', 0}) {
            dueWrong("e4;" + code + "123;p456", 3);
            dueWrong("e4;p123;" + code + "456", 8);
        }
        for (char code : new char[] {':', '<', ',', 'p', '0', 0}) {
            dueWrong("e4" + code + "p123;p456", 2);
            dueWrong("e4;p123" + code + "p456", 7);
        }
        dueWrong("e4;pp123;p456", 4);
        dueWrong("e4;;p123;p456", 3);
    }

    private static void heightsOfAText() {
        Due.says("three digits 0 .. 9 (HEIGHTS of its edge at PLACES 0, 1, 2)");
        dueTaken("e4;p000;d999");
        dueTaken("e4;p900;d090;l009;p099;d909;l990");
        for (char code : new char[] {'/', ':', ';', 'p', 'e', 0}) {
            for (int place = 0; place < 3; place++) {
                dueWrong("e4;p" + "123".substring(0, place) + code + "123".substring(place + 1) + ";l456", 4 + place);
                dueWrong("e4;p123;l" + "456".substring(0, place) + code + "456".substring(place + 1), 9 + place);
            }
        }
        dueWrong("e4;p12;l456", 6);
        dueWrong("e4;p1234;l456", 7);
        dueWrong("e4;p123;l4567", 12);
    }

    private static void textThatEndsTooSoon() {
        Due.says("how many codes there are, if it just ends too soon");
        for (int n = 0; n < SIX.length(); n++) {
            if (n < 12 || n % 5 != 2) {
                dueWrong(SIX.substring(0, n), n);
            }
        }
    }

    private static void firstOfSeveralFaults() {
        Due.says("FIRST FAULT: the place (from 0 on) of the first code with which no TEXT goes on");
        dueWrong("x", 0);
        dueWrong("xx;x", 0);
        dueWrong("ex;x", 1);
        dueWrong("e4xx1", 2);
        dueWrong("e4;p12x;l45x", 6);
        dueWrong("e4;p123;l45x", 11);
        dueWrong("e4;p123x", 7);
        dueWrong("e4;p123;l456x", 12);
        // Cells ahead of i are none of the TEXT, and its places are told from i on.
        dueWrong(";p123;l456", 0);
    }

    private static void codesByTheirNumbers() {
        Due.says("(Codes: e 101, p 112, l 108, d 100, ; 59, digits 48 .. 57.)");
        for (int lane = 0; lane <= 2; lane++) {
            WavePass x = withText(lane, 101, 57, 59, 112, 48, 49, 50, 59, 108, 51, 52, 53, 59, 100, 54, 55, 56);
            Due.dueNoFault(x, "coast", x.coast(1, lane, 2, 17), 3);
            Due.due("SLACK", x.many(1), 9);
            for (int p = 0; p < 3; p++) {
                Due.due("kind", x.ofPass(p, 0), p);
                for (int place = 0; place < 3; place++) {
                    Due.due("HEIGHT", x.ofPass(p, 1 + place), 3 * p + place);
                }
            }
        }
    }

    private static void codesThatAreNotCut() {
        Due.says("what comes to a cell of it is cut to its LANE (with its sign)");
        int[][] wide = {{'e' + 256, 1}, {'e' - 256, 1}, {'e' + 65536, 2}, {'e' - 65536, 2}, {MIN, 2}, {MAX, 2},
            {-1, 0}, {-128, 0}, {127, 0}, {-32768, 1}, {32767, 1}};
        for (int[] one : wide) {
            int[] codes = TEXT.chars().toArray();
            codes[0] = one[0];
            Calls.coast(() -> withText(one[1], codes)).taken(-100, 1, one[1], 2, 12);
        }
        int[] cut = TEXT.chars().toArray();
        cut[0] = 'e' + 256;
        cut[1] = '3' - 512;
        WavePass x = withText(0, cut);
        Due.dueNoFault(x, "codes cut to bytes", x.coast(1, 0, 2, 12), 2);
        Due.due("SLACK", x.many(1), 3);
        cut[0] = 'e' - 65536;
        cut[1] = '3' + 65536;
        x = withText(1, cut);
        Due.dueNoFault(x, "codes cut to shorts", x.coast(1, 1, 2, 12), 2);
        Due.due("SLACK", x.many(1), 3);
    }

    private static void textThatIsNotTaken() {
        Due.says("how many PASSES; -100 less the FIRST FAULT");
        // full() and bare() have texts on sheets 0 and 1; parts of them are none.
        for (Line.Maker maker : new Line.Maker[] {Harbour::full, Harbour::bare, Harbour::crowded}) {
            Calls.coast(maker).taken(-100, 0, 0, 1, 12).taken(-111, 0, 0, 0, 11).taken(-113, 0, 0, 0, 13)
                .taken(-107, 1, 1, 0, 7).taken(-100, 2, 2, 0, 40).taken(-101, 1, 1, 0, 1);
        }
    }

    private static void textThatIsTaken() {
        Due.says("A TEXT that is taken makes all anew, but for the SHEETS and TRACE: no READINGS.");
        Line.Maker anew = () -> {
            WavePass x = bare();
            Due.due("coast", x.coast(0, 0, 0, 27), 5);
            Due.due("tell", x.tell(2), 130);
            Due.due("coast", x.coast(1, 1, 0, 12), 2);
            return x;
        };
        Calls.coast(Harbour::full).makes(2, anew, 1, 1, 0, 12);
        Calls.coast(Harbour::crowded).makes(2, anew, 1, 1, 0, 12);
        WavePass x = crowded();
        Due.due("coast", x.coast(1, 1, 0, 12), 2);
        Due.due("no READINGS", x.many(2), 0);
        Due.due("no READINGS to take back", x.back(1), OUTSIDE);
        Due.due("the first READING is 0", x.reading(1, 0, 0, true), 0);
        Due.due("SLACK", x.many(1), 3);
        Due.due("no third PASS", x.ofPass(2, 0), UNKNOWN);
        Due.due("no set of three", x.letGo(4, 0), OUTSIDE);
        Due.due("TRACE of a DRAWN one that was told", x.trace(), ((3 * 31 + 2) * 31 + 1) * 31 + 1);
        Due.due("sheet 2", x.cell(2, 39, 2), 9);
        Due.due("sheet 3 has nothing", x.lose(3), 0);
    }

    private static void sameTextTakenAgain() {
        Due.says("A TEXT that is taken makes all anew");
        Line.Maker changed = () -> {
            WavePass x = full();
            Due.due("trim", x.trim(4, 2, 9), 0);
            Due.due("slack", x.slack(0), 4);
            return x;
        };
        Line.Maker unread = () -> {
            WavePass x = full();
            Due.due("back", x.back(3), 0);
            return x;
        };
        Calls.coast(changed).makes(5, unread, 0, 0, 0, 27);
        Calls.coast(changed).makes(2, () -> {
            WavePass x = unread.make();
            Due.due("coast", x.coast(0, 0, 0, 12), 2);
            return x;
        }, 0, 0, 0, 12);
    }

    // ---- promises 3 to 5

    private static void ofPass() {
        Due.says("Of a PASS: 0 kind, 1 to 3 HEIGHT at PLACES 0 to 2. UNKNOWN; OUTSIDE.");
        int[] noWhat = {-1, 4, MIN, MAX};
        Calls.ofPass(Harbour::full, 0, 0).way(UNKNOWN, 0, NO_PASS).way(OUTSIDE, 1, noWhat).check();
        Calls.ofPass(Harbour::bare, 0, 0).always(UNKNOWN).way(OUTSIDE, 1, noWhat).check();
        Calls.ofPass(Harbour::full).taken(0, 0, 0).taken(9, 0, 3).taken(2, 4, 0).taken(0, 4, 3).taken(1, 1, 0);
        Calls.ofPass(Harbour::two, 1, 0).taken(0, 0, 1).taken(9, 1, 3).way(UNKNOWN, 0, -1, 2, MIN, MAX).check();
        Calls.ofPass(Harbour::six, 5, 0).taken(2, 5, 0).taken(9, 5, 3).way(UNKNOWN, 0, -1, 6, MIN, MAX).check();
    }

    private static void trim() {
        Due.says("HEIGHT of a PASS at a PLACE (0 .. 2) becomes v (0 .. 9): what it was. UNKNOWN; OUTSIDE.");
        Calls.trim(Harbour::full, 0, 0, 0).way(UNKNOWN, 0, NO_PASS).way(OUTSIDE, 1, NO_PLACE)
            .way(OUTSIDE, 2, NO_DIGIT).check();
        Calls.trim(Harbour::bare, 0, 0, 0).always(UNKNOWN).way(OUTSIDE, 1, NO_PLACE).way(OUTSIDE, 2, NO_DIGIT).check();
        Line.Maker maker = () -> coastBy("e3;p129;l450;d678");
        Calls.trim(maker).makes(1, () -> coastBy("e3;p029;l450;d678"), 0, 0, 0)
            .makes(1, () -> coastBy("e3;p929;l450;d678"), 0, 0, 9)
            .makes(9, () -> coastBy("e3;p120;l450;d678"), 0, 2, 0)
            .makes(5, () -> coastBy("e3;p129;l490;d678"), 1, 1, 9)
            .makes(6, () -> coastBy("e3;p129;l450;d078"), 2, 0, 0)
            .makes(8, () -> coastBy("e3;p129;l450;d679"), 2, 2, 9)
            .taken(9, 0, 2, 9).taken(0, 1, 2, 0);
        Calls.trim(Harbour::two, 1, 0, 0).way(UNKNOWN, 0, 2).check();
        Calls.trim(Harbour::six, 5, 0, 0).makes(9, () -> coastBy("e9;p999;l000;d123;p321;l555;d900"), 5, 2, 0)
            .way(UNKNOWN, 0, 6).check();
    }

    private static void trimCutsBothHalves() {
        Due.says("Both halves of a PASS are cut along its HEIGHTS");
        WavePass x = coastBy("e3;p000;p000");
        Due.due("trim", x.trim(0, 1, 9), 0);
        Due.due("the upper half", x.off(0, 1, 0), 9);
        Due.due("the lower half", x.off(1, 0, 0), 9);
        Due.due("the lower half behind 8", x.worn(0, 1, 8), 1);
        Due.due("both", x.off(0, 0, 0), 0);
    }

    private static void slack() {
        Due.says("SLACK becomes v (0 .. 9): what it was. OUTSIDE; STATE: there is no COAST.");
        Calls.slack(Harbour::full, 0).way(OUTSIDE, 0, NO_DIGIT).check();
        Calls.slack(Harbour::bare, 0).way(OUTSIDE, 0, NO_DIGIT).always(STATE).check();
        Calls.slack(WavePass::new, 9).way(OUTSIDE, 0, NO_DIGIT).always(STATE).check();
        Line.Maker maker = () -> coastBy("e3;p129;l450");
        Calls.slack(maker).makes(3, () -> coastBy("e0;p129;l450"), 0).makes(3, () -> coastBy("e9;p129;l450"), 9)
            .taken(3, 3);
        Calls.slack(() -> coastBy("e9;p129;l450")).makes(9, () -> coastBy("e0;p129;l450"), 0);
    }

    // ---- promise 6

    private static void worn() {
        Due.says("HEIGHT of a lower half at a PLACE (0 .. 2) behind m MONTHS (0 .. 9). UNKNOWN; OUTSIDE.");
        Calls.worn(Harbour::full, 0, 0, 0).way(UNKNOWN, 0, NO_PASS).way(OUTSIDE, 1, NO_PLACE)
            .way(OUTSIDE, 2, NO_MONTHS).check();
        Calls.worn(Harbour::bare, 0, 0, 0).always(UNKNOWN).way(OUTSIDE, 1, NO_PLACE).way(OUTSIDE, 2, NO_MONTHS).check();
        Calls.worn(Harbour::full).taken(3, 0, 0, 0).taken(0, 0, 2, 9).taken(3, 4, 0, 0).taken(8, 4, 1, 0)
            .taken(6, 4, 1, 1).taken(7, 1, 2, 0);
        Calls.worn(Harbour::six, 5, 2, 0).taken(9, 5, 2, 0).way(UNKNOWN, 0, 6).check();
        Calls.worn(Harbour::two, 1, 2, 0).taken(1, 1, 2, 4).way(UNKNOWN, 0, 2).check();
    }

    private static void wornByKinds() {
        Due.says("of a PASS by m; of a LENT one by 1 more; of a DRAWN one by twice what that of a PASS is: "
            + "each of its HEIGHTS is so much less (0 at least)");
        for (int h = 0; h <= 9; h++) {
            String edge = "" + h + (9 - h) + h;
            WavePass x = coastBy("e0;p" + edge + ";l" + edge + ";d" + edge);
            for (int m = 0; m <= 9; m++) {
                int[] by = {m, m + 1, 2 * m};
                for (int p = 0; p < 3; p++) {
                    Due.due(edge + " of kind " + p + " behind " + m, x.worn(p, 0, m), h > by[p] ? h - by[p] : 0);
                    Due.due(edge + " of kind " + p + " behind " + m, x.worn(p, 1, m), 9 - h > by[p] ? 9 - h - by[p] : 0);
                    Due.due(edge + " of kind " + p + " behind " + m, x.worn(p, 2, m), h > by[p] ? h - by[p] : 0);
                }
            }
        }
    }

    private static void upperHalfStays() {
        Due.says("the upper one stays as it is");
        WavePass x = coastBy("e0;p999;l999;d999;p000");
        for (int p = 0; p < 3; p++) {
            for (int m = 0; m <= 9; m++) {
                Due.due("the upper half of kind " + p + " on 000 behind " + m, x.off(p, 3, m), 27);
            }
        }
    }
}
