/** Promises 7 to 12 and part 2 of the Terms, at their bounds: each test holds the words that it quotes. */
public final class HalvesBoundsTest extends Harbour {
    private HalvesBoundsTest() { }

    public static void main(String[] args) {
        off();
        offAtAllPlaces();
        fits();
        noMoreThanSlack();
        match();
        matchOfSeveral();
        matchThatFits();
        last();
        lastLeastAndGreatest();
        lastOfNone();
        alike();
        alikeByUpperHalves();
        alikeByNoMoreThanSlack();
        most();
        mostOfSeveral();
        mostFewestAndAll();
        mostBehindOtherSets();
        Due.end();
    }

    // ---- promise 7

    private static void off() {
        Due.says("By how much the upper half of p and the lower one of q are OFF behind m MONTHS (0 .. 9). "
            + "UNKNOWN; OUTSIDE.");
        Calls.off(Harbour::full, 0, 0, 0).way(UNKNOWN, 0, NO_PASS).way(UNKNOWN, 1, NO_PASS).way(OUTSIDE, 2, NO_MONTHS)
            .check();
        Calls.off(Harbour::bare, 0, 0, 0).always(UNKNOWN).way(OUTSIDE, 2, NO_MONTHS).check();
        Calls.off(Harbour::full).taken(0, 0, 0, 0).taken(11, 4, 4, 9).taken(11, 0, 4, 0).taken(11, 4, 0, 0)
            .taken(18, 0, 4, 9);
        Calls.off(Harbour::two, 1, 1, 0).taken(27, 1, 0, 0).taken(27, 0, 1, 0).taken(27, 1, 1, 9).taken(0, 0, 0, 9)
            .way(UNKNOWN, 0, 2).way(UNKNOWN, 1, 2).check();
        Calls.off(Harbour::six, 5, 5, 0).taken(0, 5, 5, 0).taken(9, 0, 5, 0).way(UNKNOWN, 0, 6).way(UNKNOWN, 1, 6)
            .check();
    }

    private static void offAtAllPlaces() {
        Due.says("the differences of their HEIGHTS at all three PLACES together");
        WavePass x = coastBy("e0;p000;p900;p080;p007;p555;p946");
        int[] all = {0, 9, 8, 7, 15, 19};
        for (int p = 0; p < 6; p++) {
            Due.due("upper " + p + ", lower 000", x.off(p, 0, 0), all[p]);
            Due.due("upper 000, lower " + p, x.off(0, p, 0), all[p]);
        }
        Due.due("differences that go both ways", x.off(4, 5, 0), 4 + 1 + 1);
        Due.due("differences that go both ways", x.off(5, 4, 0), 4 + 1 + 1);
        Due.due("lower 946 behind 5 is 401", x.off(4, 5, 5), 1 + 5 + 4);
    }

    // ---- promise 8

    private static void fits() {
        Due.says("PASSES whose upper halves FIT the lower one of q behind m MONTHS (0 .. 9), as a set. UNKNOWN; OUTSIDE.");
        Calls.fits(Harbour::full, 0, 0).way(UNKNOWN, 0, NO_PASS).way(OUTSIDE, 1, NO_MONTHS).check();
        Calls.fits(Harbour::bare, 0, 0).always(UNKNOWN).way(OUTSIDE, 1, NO_MONTHS).check();
        Calls.fits(Harbour::full).taken(11, 0, 0).taken(0, 0, 9).taken(16, 4, 0).taken(0, 4, 9).taken(8, 0, 2);
        Calls.fits(Harbour::two, 1, 0).taken(1, 0, 9).taken(2, 1, 0).taken(0, 1, 1).taken(1, 1, 9)
            .way(UNKNOWN, 0, 2).check();
        Calls.fits(Harbour::six, 5, 0).taken(33, 5, 0).taken(33, 0, 0).way(UNKNOWN, 0, 6).check();
        Due.says("Sets are told as bits (bit k for number k)");
        Calls.fits(() -> coastBy("e9;p000;p000;p000;p000;p000;p000")).taken(63, 0, 0).taken(63, 5, 9);
        Calls.fits(() -> coastBy("e0;p000;p000;p000;p000;p000;p001")).taken(31, 0, 0).taken(32, 5, 0);
    }

    /** Upper halves that are OFF the lower one of PASS 0 by 0, by just SLACK, and by one more. */
    private static WavePass around(int slack) {
        String above = slack < 9 ? "00" + (slack + 1) : "019";
        return coastBy("e" + slack + ";p000;p00" + slack + ";p" + above);
    }

    private static void noMoreThanSlack() {
        Due.says("They FIT, if they are OFF by no more than SLACK");
        for (int slack = 0; slack <= 9; slack++) {
            WavePass x = around(slack);
            Due.due("SLACK " + slack, x.fits(0, 0), 3);
            Due.due("SLACK " + slack + ", one less", x.slack(Math.max(slack - 1, 0)), slack);
            Due.due("SLACK " + slack + ", one less", x.fits(0, 0), slack == 0 ? 3 : 1);
        }
    }

    // ---- promise 9

    private static void match() {
        Due.says("MATCH of a lower half behind m MONTHS (0 .. 9); NONE. UNKNOWN; OUTSIDE.");
        Calls.match(Harbour::full, 0, 0).way(UNKNOWN, 0, NO_PASS).way(OUTSIDE, 1, NO_MONTHS).check();
        Calls.match(Harbour::bare, 0, 0).always(UNKNOWN).way(OUTSIDE, 1, NO_MONTHS).check();
        Calls.match(Harbour::full).taken(0, 0, 0).taken(NONE, 0, 9).taken(4, 4, 0).taken(NONE, 4, 9).taken(3, 0, 1);
        Calls.match(Harbour::two, 1, 0).taken(0, 0, 9).taken(1, 1, 0).taken(NONE, 1, 1).taken(0, 1, 9)
            .way(UNKNOWN, 0, 2).check();
        Calls.match(Harbour::six, 5, 0).taken(5, 5, 0).way(UNKNOWN, 0, 6).check();
    }

    private static void matchOfSeveral() {
        Due.says("the upper one that FITS it and is the least OFF: of several the least");
        Due.due("all are the same", coastBy("e0;p555;p555;p555;p555;p555;p555").match(5, 0), 0);
        Due.due("two ways of being OFF by 1", coastBy("e9;p900;p554;p655;p545;l666").match(4, 0), 1);
        Due.due("a later one that is less OFF", coastBy("e9;p554;p655;p545;l666;p555").match(3, 0), 4);
        Due.due("its own comes behind another", coastBy("e0;p000;p123;l123;d123").match(3, 0), 1);
    }

    private static void matchThatFits() {
        Due.says("MATCH of a lower half: the upper one that FITS it and is the least OFF: of several the least; NONE.");
        for (int slack = 0; slack <= 9; slack++) {
            // The lower half of the LENT one is 000 behind 8; its own upper one is OFF by 27.
            String above = slack < 9 ? "00" + (slack + 1) : "019";
            Due.due("all are OFF by more than " + slack, coastBy("e" + slack + ";l999;p" + above).match(0, 8), NONE);
            WavePass x = coastBy("e" + slack + ";l999;p" + above + ";p00" + slack);
            Due.due("the last is OFF by just " + slack, x.match(0, 8), 2);
        }
    }

    // ---- promise 10

    private static void last() {
        Due.says("LAST; NONE. UNKNOWN.");
        Calls.last(Harbour::full, 0).way(UNKNOWN, 0, NO_PASS).check();
        Calls.last(Harbour::bare, 0).always(UNKNOWN).check();
        Calls.last(Harbour::full).taken(1, 0).taken(1, 4);
        Calls.last(Harbour::two, 1).taken(9, 0).taken(0, 1).way(UNKNOWN, 0, 2).check();
        Calls.last(Harbour::six, 5).taken(2, 5).way(UNKNOWN, 0, 6).check();
    }

    private static void lastLeastAndGreatest() {
        Due.says("LAST: the greatest m (0 to 9) behind which it is GOOD");
        WavePass x = coastBy("e0;p900;l900;d900;p090;l000;d000");
        for (int slack = 0; slack <= 9; slack++) {
            x.slack(slack);
            Due.due("PASS 900 by " + slack, x.last(0), slack);
            Due.due("LENT 900 by " + slack, x.last(1), slack == 0 ? NONE : slack == 9 ? 9 : slack - 1);
            Due.due("DRAWN 900 by " + slack, x.last(2), slack == 9 ? 9 : slack / 2);
            Due.due("PASS 090 by " + slack, x.last(3), slack);
            Due.due("LENT 000 by " + slack, x.last(4), 9);
            Due.due("DRAWN 000 by " + slack, x.last(5), 9);
        }
    }

    private static void lastOfNone() {
        Due.says("LAST: the greatest m (0 to 9) behind which it is GOOD; NONE");
        WavePass x = coastBy("e2;l111;l110;p999;d999");
        Due.due("a LENT one that is OFF by 3 at first", x.last(0), NONE);
        Due.due("a LENT one that is OFF by 2 at first and behind all", x.last(1), 9);
        Due.due("a PASS is GOOD behind 0", x.last(2), 0);
        Due.due("a DRAWN one is GOOD behind 0", x.last(3), 0);
        Due.due("slack", x.slack(3), 2);
        Due.due("a LENT one that is OFF by 3", x.last(0), 9);
        Due.due("PASS 999 behind 1", x.last(2), 1);
        Due.due("DRAWN 999 behind 1 is OFF by 6", x.last(3), 0);
    }

    // ---- promise 11

    private static void alike() {
        Due.says("Other PASSES that are ALIKE to one, as a set. UNKNOWN.");
        Calls.alike(Harbour::full, 0).way(UNKNOWN, 0, NO_PASS).check();
        Calls.alike(Harbour::bare, 0).always(UNKNOWN).check();
        Calls.alike(Harbour::full).taken(10, 0).taken(0, 4);
        Calls.alike(Harbour::two, 1).taken(0, 0).taken(0, 1).way(UNKNOWN, 0, 2).check();
        Calls.alike(Harbour::six, 5).taken(1, 5).way(UNKNOWN, 0, 6).check();
        WavePass x = coastBy("e0;p555;p555;p555;p555;p555;p555");
        for (int p = 0; p < 6; p++) {
            Due.due("all but itself", x.alike(p), 63 - (1 << p));
        }
    }

    private static void alikeByUpperHalves() {
        Due.says("ALIKE are two PASSES whose upper halves differ by no more than SLACK (as OFF is told)");
        WavePass x = coastBy("e0;p555;l555;d555;p444;l666");
        Due.due("no half is worn", x.alike(0), 2 | 4);
        Due.due("no half is worn", x.alike(1), 1 | 4);
        Due.due("no half is worn", x.alike(2), 1 | 2);
        Due.due("444 is alike to none", x.alike(3), 0);
        Due.due("666 is alike to none", x.alike(4), 0);
    }

    private static void alikeByNoMoreThanSlack() {
        Due.says("whose upper halves differ by no more than SLACK (as OFF is told)");
        for (int slack = 0; slack <= 9; slack++) {
            WavePass x = around(slack);
            Due.due("000 by " + slack, x.alike(0), 2);
            Due.due("00" + slack + " by " + slack, x.alike(1), slack == 0 ? 1 : 1 | 4);
            Due.due("one more by " + slack, x.alike(2), slack == 0 ? 0 : 2);
        }
        WavePass y = coastBy("e3;p111;p222;p012;p120");
        Due.due("differences at all PLACES, both ways", y.alike(0), 2 | 4 | 8);
    }

    // ---- promise 12

    private static void most() {
        Due.says("MOST, as a set. STATE: there is no COAST.");
        Calls.most(WavePass::new).always(STATE).check();
        Calls.most(Harbour::bare).always(STATE).check();
        Calls.most(Harbour::full).taken(21);
        Calls.most(Harbour::two).taken(3);
        Calls.most(Harbour::six).taken(19);
    }

    private static void mostOfSeveral() {
        Due.says("MOST: the set of the most PASSES of which no two are ALIKE: of several the least");
        Due.due("{1, 2} is less than {0, 3}", coastBy("e1;p000;p100;p010;p110").most(), 6);
        Due.due("{0, 2} is less than {0, 3} and {1, 3}", coastBy("e1;p000;p001;p002;p003").most(), 5);
        Due.due("{0, 1} of two pairs", coastBy("e0;p000;p999;p000;p999").most(), 3);
        Due.due("{1, 2, 3} are more than {0}", coastBy("e2;p111;p311;p131;p113").most(), 14);
    }

    private static void mostFewestAndAll() {
        Due.says("the set of the most PASSES of which no two are ALIKE");
        Due.due("one of two", coastBy("e9;p000;p009").most(), 1);
        Due.due("two of two", coastBy("e8;p000;p009").most(), 3);
        Due.due("one of six", coastBy("e9;p555;p555;p555;p555;p555;p555").most(), 1);
        Due.due("six of six", coastBy("e8;p000;p900;p090;p009;p990;p099").most(), 63);
        Due.due("all but the first", coastBy("e9;p000;p900;p090;p009;p990;p099").most(), 14);
    }

    private static void mostBehindOtherSets() {
        Due.says("MOST: the set of the most PASSES of which no two are ALIKE");
        WavePass x = coastBy("e1;p000;p100;p010;p110");
        Due.due("fewest", x.fewest(0), 3);
        Due.due("behind FEWEST", x.most(), 6);
        Due.due("letGo", x.letGo(15, 0), 15);
        Due.due("behind a set that is let go", x.most(), 6);
        Due.due("slack", x.slack(0), 1);
        Due.due("by another SLACK", x.most(), 15);
        Due.due("letGo behind MOST", x.letGo(1, 0), 1);
    }
}
