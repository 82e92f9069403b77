/** Promises 16 to 21 and part 4 of the Terms, at their bounds: each test holds the words that it quotes. */
public final class FittedBoundsTest extends Harbour {
    private static final int ALL_DIGITS = 1023, ALL_KINDS = 7;

    private FittedBoundsTest() { }

    public static void main(String[] args) {
        reading();
        readingsAreFull();
        readingsAreNumbered();
        eachReadingCounts();
        halvesOfAReading();
        back();
        backTakesTheLastOnes();
        edges();
        edgesWithoutReadings();
        edgesLeastAndGreatest();
        edgesOfALowerHalf();
        edgesInPlaceOfWhatItIs();
        kinds();
        kindsOneByOne();
        slacks();
        slacksLeastAndGreatest();
        slacksAtTheirBounds();
        byHowAllIsWhenItIsAsked();
        odds();
        oddsInLeastTerms();
        Due.end();
    }

    // ---- promise 16

    private static Line refusing(Line line) {
        return line.way(UNKNOWN, 0, NO_PASS).way(UNKNOWN, 1, NO_PASS).way(OUTSIDE, 2, NO_MONTHS);
    }

    private static void reading() {
        Due.says("A READING of the upper half of p and the lower one of q: its number. UNKNOWN; OUTSIDE: m (0 .. 9); FULL.");
        for (int did = 0; did <= 1; did++) {
            refusing(Calls.reading(Harbour::full, 0, 0, 0, did)).check();
            Calls.reading(Harbour::bare, 0, 0, 0, did).always(UNKNOWN).way(OUTSIDE, 2, NO_MONTHS).check();
            Calls.reading(Harbour::two, 1, 1, 0, did).way(UNKNOWN, 0, 2).way(UNKNOWN, 1, 2).check();
            Calls.reading(Harbour::six, 5, 5, 0, did).way(UNKNOWN, 0, 6).way(UNKNOWN, 1, 6).check();
        }
        WavePass x = six();
        Due.makeFault(x);
        Due.due("least", x.reading(0, 0, 0, true), 0);
        Due.due("greatest", x.reading(5, 5, 9, false), 1);
        Due.due("reading names no FAULTS", x.fault(), Due.SIZE);
        x = two();
        Due.due("greatest of two", x.reading(1, 1, 9, false), 0);
    }

    private static void readingsAreFull() {
        Due.says("READINGS, 8 at most");
        for (int did = 0; did <= 1; did++) {
            refusing(Calls.reading(Harbour::crowded, 0, 0, 0, did)).always(FULL).check();
        }
        WavePass x = crowded();
        Due.due("eight", x.many(2), 8);
        Due.due("a ninth one", x.reading(0, 0, 0, true), FULL);
        Due.due("eight", x.many(2), 8);
        Due.due("one less", x.back(1), 7);
        Due.due("the eighth one", x.reading(0, 0, 0, true), 7);
        Due.due("a ninth one", x.reading(0, 0, 0, true), FULL);
    }

    private static void readingsAreNumbered() {
        Due.says("numbered by how many there are ahead (the first one is 0)");
        WavePass x = two();
        for (int k = 0; k < 8; k++) {
            Due.due("how many", x.many(2), k);
            Due.due("number", x.reading(0, 0, k, true), k);
        }
        Due.due("how many", x.many(2), 8);
        Due.due("back", x.back(8), 0);
        Due.due("the first one again", x.reading(1, 1, 0, true), 0);
    }

    private static void eachReadingCounts() {
        Due.says("by which all READINGS are so");
        for (int wrong = 0; wrong < 8; wrong++) {
            WavePass x = coastBy("e0;p000;p000;p000");
            for (int k = 0; k < 8; k++) {
                Due.due("reading", x.reading(0, 1, 0, k != wrong), k);
            }
            Due.due("SLACKS, where " + wrong + " is not so", x.slacks(), 0);
            Due.due("EDGES, where " + wrong + " is not so", x.edges(2, 0), 0);
            Due.due("KINDS, where " + wrong + " is not so", x.kinds(2), 0);
            Due.due("back", x.back(8 - wrong), wrong);
            Due.due("SLACKS of the ones ahead", x.slacks(), ALL_DIGITS);
            Due.due("EDGES of the ones ahead", x.edges(2, 0), ALL_DIGITS);
            Due.due("KINDS of the ones ahead", x.kinds(2), ALL_KINDS);
        }
    }

    private static void halvesOfAReading() {
        Due.says("an upper half and a lower one behind m MONTHS did FIT, or did not");
        WavePass x = coastBy("e0;p000;d999");
        Due.due("upper 000, lower 999 behind 5", x.reading(0, 1, 5, true), 0);
        Due.due("it is so by any SLACK", x.slacks(), ALL_DIGITS);
        Due.due("upper 999, lower 000", x.reading(1, 0, 5, true), 1);
        Due.due("it is so by none", x.slacks(), 0);
        Due.due("back", x.back(1), 1);
        Due.due("upper 999, lower 000", x.reading(1, 0, 5, false), 1);
        Due.due("it is so by any SLACK", x.slacks(), ALL_DIGITS);
        Due.due("upper 000, lower 999 behind 4 is 111", x.reading(0, 1, 4, true), 2);
        Due.due("it is so by 3 or more", x.slacks(), ALL_DIGITS - 7);
    }

    // ---- promise 17

    private static void back() {
        Due.says("The last k READINGS (0 .. as many as there are) are taken back: how many are left. OUTSIDE.");
        Calls.back(Harbour::full, 0).taken(3, 0).way(OUTSIDE, 0, -1, 4, 5, 8, MIN, MAX).check();
        Calls.back(Harbour::crowded, 0).taken(8, 0).way(OUTSIDE, 0, -1, 9, MIN, MAX).check();
        Calls.back(Harbour::two, 0).taken(0, 0).way(OUTSIDE, 0, -1, 1, MIN, MAX).check();
        Calls.back(Harbour::bare, 0).taken(0, 0).way(OUTSIDE, 0, -1, 1, MIN, MAX).check();
        Calls.back(WavePass::new, 0).taken(0, 0).way(OUTSIDE, 0, -1, 1, MIN, MAX).check();
        Calls.back(Harbour::crowded).makes(3, Harbour::full, 5);
        Line.Maker unread = () -> {
            WavePass x = full();
            for (int k = 2; k >= 0; k--) {
                Due.due("one by one", x.back(1), k);
            }
            return x;
        };
        Calls.back(Harbour::full).makes(0, unread, 3);
        Calls.back(Harbour::crowded).makes(0, unread, 8);
    }

    private static void backTakesTheLastOnes() {
        Due.says("The last k READINGS");
        WavePass x = coastBy("e0;p000;p001;p003;p006");
        for (int k = 1; k <= 3; k++) {
            Due.due("OFF by 1, 3, 6", x.reading(k, 0, 0, true), k - 1);
        }
        Due.due("6 or more", x.slacks(), ALL_DIGITS - 63);
        Due.due("back", x.back(1), 2);
        Due.due("3 or more", x.slacks(), ALL_DIGITS - 7);
        Due.due("back", x.back(1), 1);
        Due.due("1 or more", x.slacks(), ALL_DIGITS - 1);
        Due.due("OFF by 6", x.reading(3, 0, 0, true), 1);
        Due.due("6 or more", x.slacks(), ALL_DIGITS - 63);
    }

    // ---- promise 18

    private static void edges() {
        Due.says("EDGES, as a set. UNKNOWN; OUTSIDE: place (0 .. 2).");
        Calls.edges(Harbour::full, 0, 0).way(UNKNOWN, 0, NO_PASS).way(OUTSIDE, 1, NO_PLACE).check();
        Calls.edges(Harbour::crowded, 0, 0).way(UNKNOWN, 0, NO_PASS).way(OUTSIDE, 1, NO_PLACE).check();
        Calls.edges(Harbour::bare, 0, 0).always(UNKNOWN).way(OUTSIDE, 1, NO_PLACE).check();
        Calls.edges(Harbour::two, 1, 0).way(UNKNOWN, 0, 2).check();
        Calls.edges(Harbour::six, 5, 2).taken(ALL_DIGITS, 5, 2).way(UNKNOWN, 0, 6).check();
        // 267 fits 46x worn to 24y by 4: y is 5 to 9 at most, and 9 is worn by 2.
        Calls.edges(Harbour::full).taken(1 << 7 | 1 << 8 | 1 << 9, 1, 2).taken(ALL_DIGITS, 4, 0).taken(ALL_DIGITS, 4, 2);
    }

    private static void edgesWithoutReadings() {
        Due.says("in place of what it is alone, by which all READINGS are so");
        for (int p = 0; p < 2; p++) {
            for (int place = 0; place <= 2; place++) {
                Calls.edges(Harbour::two).taken(ALL_DIGITS, p, place);
            }
            Calls.kinds(Harbour::two).taken(ALL_KINDS, p);
        }
        Calls.slacks(Harbour::two).taken(ALL_DIGITS);
    }

    private static void edgesLeastAndGreatest() {
        Due.says("EDGES of a PASS and a PLACE: HEIGHTS 0 .. 9, as a set");
        for (int place = 0; place <= 2; place++) {
            String low = "555".substring(0, place) + "0" + "555".substring(place + 1);
            String high = "555".substring(0, place) + "9" + "555".substring(place + 1);
            WavePass x = coastBy("e0;p555;p" + low + ";p" + high);
            Due.due("did fit 0", x.reading(0, 1, 0, true), 0);
            Due.due("0 alone", x.edges(0, place), 1);
            Due.due("did not fit 9", x.reading(0, 2, 0, false), 1);
            Due.due("0 alone", x.edges(0, place), 1);
            Due.due("back", x.back(2), 0);
            Due.due("did fit 9", x.reading(0, 2, 0, true), 0);
            Due.due("9 alone", x.edges(0, place), 512);
            Due.due("did fit 0, too", x.reading(0, 1, 0, true), 1);
            Due.due("none", x.edges(0, place), 0);
            Due.due("back", x.back(2), 0);
            Due.due("did not fit 0", x.reading(0, 1, 0, false), 0);
            Due.due("did not fit 9", x.reading(0, 2, 0, false), 1);
            Due.due("1 to 8", x.edges(0, place), ALL_DIGITS - 513);
        }
    }

    private static void edgesOfALowerHalf() {
        Due.says("each of its HEIGHTS is so much less (0 at least)");
        WavePass x = coastBy("e0;p000;l055;d550");
        Due.due("000 fits the LENT one behind 4", x.reading(0, 1, 4, true), 0);
        Due.due("0 to 5 are worn to nothing", x.edges(1, 0), 63);
        Due.due("000 fits the DRAWN one behind 3", x.reading(0, 2, 3, true), 1);
        Due.due("0 to 6 are worn to nothing", x.edges(2, 2), 127);
        Due.due("back", x.back(2), 0);
        Due.due("000 fits the PASS behind 9", x.reading(0, 0, 9, true), 0);
        Due.due("its own halves: the upper one stays", x.edges(0, 1), 1);
    }

    private static void edgesInPlaceOfWhatItIs() {
        Due.says("in place of what it is alone");
        WavePass x = coastBy("e2;p555;p444");
        Due.due("555 on 444 is OFF by 3, and did fit", x.reading(0, 1, 0, true), 0);
        Due.due("3 to 5 at PLACE 0: one of three differences may go", x.edges(0, 0), 1 << 4);
        Due.due("of the other PASS", x.edges(1, 2), 1 << 5);
        Due.due("the HEIGHT is as it was", x.ofPass(0, 1), 5);
        Due.due("the HEIGHT is as it was", x.ofPass(1, 3), 4);
        Due.due("trim", x.trim(0, 1, 4), 5);
        Due.due("545 on 444: x is OFF by 1 at most", x.edges(0, 0), 1 << 3 | 1 << 4 | 1 << 5);
        Due.due("trim", x.trim(0, 0, 9), 5);
        Due.due("what it is does not matter", x.edges(0, 0), 1 << 3 | 1 << 4 | 1 << 5);
        Due.due("what it is matters elsewhere", x.edges(0, 2), 0);
    }

    // ---- promise 19

    private static void kinds() {
        Due.says("KINDS, as a set. UNKNOWN.");
        Calls.kinds(Harbour::full, 0).way(UNKNOWN, 0, NO_PASS).check();
        Calls.kinds(Harbour::crowded, 0).way(UNKNOWN, 0, NO_PASS).check();
        Calls.kinds(Harbour::bare, 0).always(UNKNOWN).check();
        Calls.kinds(Harbour::two, 1).way(UNKNOWN, 0, 2).check();
        Calls.kinds(Harbour::six, 5).taken(ALL_KINDS, 5).way(UNKNOWN, 0, 6).check();
        // 267 fits 468 behind 1, as 357 (OFF by 3) or 246 (3) of any kind.
        Calls.kinds(Harbour::full).taken(ALL_KINDS, 1).taken(ALL_KINDS, 4);
    }

    private static void kindsOneByOne() {
        Due.says("KINDS of a PASS: 0 .. 2, as a set");
        for (String letter : new String[] {"p", "l", "d"}) {
            WavePass x = coastBy("e0;" + letter + "555;p444;p111;p555");
            int kind = "pld".indexOf(letter);
            Due.due("444 behind 1 is a PASS", x.reading(1, 0, 1, true), 0);
            Due.due("0 alone", x.kinds(0), 1);
            Due.due("back", x.back(1), 0);
            Due.due("444 behind 0 is LENT", x.reading(1, 0, 0, true), 0);
            Due.due("1 alone", x.kinds(0), 2);
            Due.due("back", x.back(1), 0);
            Due.due("111 behind 2 is DRAWN", x.reading(2, 0, 2, true), 0);
            Due.due("2 alone", x.kinds(0), 4);
            Due.due("444 behind 1, too", x.reading(1, 0, 1, true), 1);
            Due.due("none", x.kinds(0), 0);
            Due.due("back", x.back(2), 0);
            Due.due("555 behind 0 is not LENT", x.reading(3, 0, 0, true), 0);
            Due.due("0 and 2", x.kinds(0), 5);
            Due.due("the kind of an upper half does not matter", x.kinds(3), kind == 1 ? 0 : ALL_KINDS);
            Due.due("the kind is as it was", x.ofPass(0, 0), kind);
        }
    }

    // ---- promise 20

    private static void slacks() {
        Due.says("SLACKS, as a set. STATE: there is no COAST.");
        Calls.slacks(WavePass::new).always(STATE).check();
        Calls.slacks(Harbour::bare).always(STATE).check();
        Calls.slacks(Harbour::full).taken(ALL_DIGITS - 7);
        Calls.slacks(Harbour::crowded).taken(ALL_DIGITS - 7);
    }

    private static void slacksLeastAndGreatest() {
        Due.says("SLACKS: 0 .. 9, as a set");
        WavePass x = coastBy("e5;p000;p001;p009;p019;p008");
        Due.due("OFF by 0 did fit", x.reading(0, 0, 0, true), 0);
        Due.due("all", x.slacks(), ALL_DIGITS);
        Due.due("OFF by 1 did not", x.reading(1, 0, 0, false), 1);
        Due.due("0 alone", x.slacks(), 1);
        Due.due("back", x.back(2), 0);
        Due.due("OFF by 9 did fit", x.reading(2, 0, 0, true), 0);
        Due.due("9 alone", x.slacks(), 512);
        Due.due("OFF by 10 did not", x.reading(3, 0, 0, false), 1);
        Due.due("9 alone", x.slacks(), 512);
        Due.due("SLACK is as it was", x.many(1), 5);
    }

    private static void slacksAtTheirBounds() {
        Due.says("SLACKS: 0 .. 9, as a set");
        WavePass x = coastBy("e5;p000;p001;p009;p019;p008");
        Due.due("OFF by 10 did fit", x.reading(3, 0, 0, true), 0);
        Due.due("none", x.slacks(), 0);
        Due.due("back", x.back(1), 0);
        Due.due("OFF by 10 did not", x.reading(3, 0, 0, false), 0);
        Due.due("all", x.slacks(), ALL_DIGITS);
        Due.due("OFF by 9 did not", x.reading(2, 0, 0, false), 1);
        Due.due("0 to 8", x.slacks(), 511);
        Due.due("OFF by 8 did fit", x.reading(4, 0, 0, true), 2);
        Due.due("8 alone", x.slacks(), 256);
        Due.due("OFF by 0 did not", x.reading(0, 0, 0, false), 3);
        Due.due("none", x.slacks(), 0);
        Due.due("SLACK is as it was", x.slack(9), 5);
    }

    private static void byHowAllIsWhenItIsAsked() {
        Due.says("All that follows (by how all is when it is asked)");
        WavePass x = coastBy("e3;p555;p444");
        Due.due("OFF by 3 did fit", x.reading(0, 1, 0, true), 0);
        Due.due("SLACKS", x.slacks(), ALL_DIGITS - 7);
        Due.due("KINDS of the lower half", x.kinds(1), 1 | 4);
        Due.due("slack", x.slack(2), 3);
        Due.due("SLACKS are not by what SLACK is", x.slacks(), ALL_DIGITS - 7);
        Due.due("KINDS by a SLACK of 2", x.kinds(1), 0);
        Due.due("trim", x.trim(1, 0, 5), 4);
        Due.due("SLACKS by 555 and 544", x.slacks(), ALL_DIGITS - 3);
        Due.due("KINDS by 555 and 544", x.kinds(1), 1 | 4);
        Due.due("EDGES by 555 and 544", x.edges(1, 2), 1 << 4 | 1 << 5 | 1 << 6);
        Due.due("slack", x.slack(0), 2);
        Due.due("EDGES by a SLACK of 0", x.edges(1, 2), 0);
        Due.due("a READING that is not so any more is kept", x.many(2), 1);
    }

    // ---- promise 21

    private static void odds() {
        Due.says("ODDS behind m MONTHS (0 .. 9; which 0 the upper, 1 the lower number). LOST: UNKNOWN; OUTSIDE.");
        int[] noWhich = {-1, 2, MIN, MAX};
        Calls.odds(Harbour::full, 0, 0, 0).way(UNKNOWN, 0, NO_PASS).way(OUTSIDE, 1, NO_MONTHS)
            .way(OUTSIDE, 2, noWhich).check();
        Calls.odds(Harbour::bare, 0, 0, 0).always(UNKNOWN).way(OUTSIDE, 1, NO_MONTHS).way(OUTSIDE, 2, noWhich).check();
        Calls.odds(Harbour::full).taken(7, 0, 0, 0).taken(8, 0, 0, 1).taken(0, 0, 9, 0).taken(1, 0, 9, 1)
            .taken(1, 4, 0, 0).taken(2, 4, 0, 1);
        Calls.odds(Harbour::two, 1, 0, 0).taken(1, 1, 0, 0).taken(2, 1, 0, 1).way(UNKNOWN, 0, 2).check();
        Calls.odds(Harbour::six, 5, 0, 0).taken(3, 5, 0, 0).taken(4, 5, 0, 1).way(UNKNOWN, 0, 6).check();
    }

    private static void oddsInLeastTerms() {
        Due.says("Shares are told as upper and lower number (above 0) in least terms");
        WavePass x = coastBy("e0;p000;p001;p002;p003;p004;p005");
        for (int slack = 0; slack <= 5; slack++) {
            x.slack(slack);
            Due.due(slack + 1 + " fit: upper number", x.odds(0, 0, 0), (2 << slack) - 1);
            Due.due(slack + 1 + " fit: lower number", x.odds(0, 0, 1), 2 << slack);
        }
        x = coastBy("e0;p005;p001;p002");
        Due.due("none fits: upper number", x.odds(0, 9, 0), 0);
        Due.due("none fits: lower number", x.odds(0, 9, 1), 1);
        x = coastBy("e9;p000;p001");
        Due.due("both fit: upper number", x.odds(1, 9, 0), 3);
        Due.due("both fit: lower number", x.odds(1, 9, 1), 4);
    }
}
