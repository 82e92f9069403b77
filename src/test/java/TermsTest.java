import java.util.ArrayList;
import java.util.List;
import java.util.Random;

/**
 * The sentences of the document that say what a word means: each is held by what other calls of the same object
 * answer, on coasts by chance (with fixed seeds), so that no two calls can take one word in two ways.
 */
public final class TermsTest extends Harbour {
    private static final int COASTS = 60;

    private final WavePass x;
    private final String text;
    private final int passes;
    private final int slack;

    private TermsTest(String text) {
        this.text = text;
        x = coastBy(text);
        passes = (text.length() - 2) / 5;
        slack = text.charAt(1) - '0';
    }

    public static void main(String[] args) {
        refusalsInTheirOrder();
        refusalsWithoutACoast();
        refusalsChangeNothing();
        faults();
        firstFaultThatIsComeTo();
        sheetsAtFirst();
        bodiesAsTheyBegin();
        bodiesOneBehindAnother();
        traceIsKept();
        objectsAreTheirOwn();
        lastCallsOfAnObject();
        for (String text : coasts()) {
            onACoast(text);
        }
        Due.end();
    }

    private static List<String> coasts() {
        List<String> all = new ArrayList<>(List.of(Due.FIVE, "e0;p000;d999", "e9;p999;l000;d123;p321;l555;d909",
            "e0;p555;l555;d555;p555;l555;d555", "e9;p000;l000;d000", "e3;p444;l555;d666;p445;l556;d667"));
        Random random = new Random(9);
        while (all.size() < COASTS) {
            StringBuilder text = new StringBuilder("e").append(random.nextInt(10));
            int base = random.nextInt(10);
            int spread = 1 + random.nextInt(10);
            for (int p = 2 + random.nextInt(5); p > 0; p--) {
                text.append(';').append("pld".charAt(random.nextInt(3)));
                for (int place = 0; place < 3; place++) {
                    text.append(Math.min(9, base + random.nextInt(spread)));
                }
            }
            all.add(text.toString());
        }
        return all;
    }

    /** Each on an object of its own, for an object has 512 calls. */
    private static void onACoast(String text) {
        new TermsTest(text).passesOfAText();
        new TermsTest(text).halvesOff();
        new TermsTest(text).matchOfALowerHalf();
        new TermsTest(text).goodPasses();
        new TermsTest(text).mostOfWhichNoTwoAreAlike();
        for (int m = 0; m <= 9; m++) {
            new TermsTest(text).whoHoldsASet(m);
            new TermsTest(text).fewestUpperHalves(m);
            new TermsTest(text).shareOfSets(m);
        }
        new TermsTest(text).voyagesThatAreTold();
        new TermsTest(text).edgesByReadings();
        new TermsTest(text).kindsAndSlacksByReadings();
        new TermsTest(text).asOneOfAKind();
    }

    private void due(String call, long got, long want) {
        Due.due(text + " " + call, got, want);
    }

    private static boolean has(int set, int k) {
        return (set >> k & 1) == 1;
    }

    // ---- refusals and faults

    private static void refusalsInTheirOrder() {
        Due.says("REFUSALS, in the order in which a call's line tells them: UNKNOWN (there is no such PASS, SHEET, "
            + "place of a row), OUTSIDE (another number is not as told), STATE (as told), FULL");
        WavePass x = crowded();
        Due.due("coast", x.coast(4, 3, -1, -1), UNKNOWN);
        Due.due("coast", x.coast(3, 3, -1, -1), OUTSIDE);
        Due.due("ofPass", x.ofPass(5, 4), UNKNOWN);
        Due.due("trim", x.trim(5, 3, 10), UNKNOWN);
        Due.due("slack", x.slack(10), OUTSIDE);
        Due.due("worn", x.worn(5, 3, 10), UNKNOWN);
        Due.due("off", x.off(5, 0, 10), UNKNOWN);
        Due.due("off", x.off(0, 5, 10), UNKNOWN);
        Due.due("fits", x.fits(5, 10), UNKNOWN);
        Due.due("match", x.match(5, 10), UNKNOWN);
        Due.due("letGo", x.letGo(32, 10), OUTSIDE);
        Due.due("voyages", x.voyages(32, 4, 3, -1, 21, 4), UNKNOWN);
        Due.due("voyages", x.voyages(32, 3, 3, -1, 21, 4), OUTSIDE);
        Due.due("reading", x.reading(5, 5, 10, true), UNKNOWN);
        Due.due("reading", x.reading(0, 0, 10, true), OUTSIDE);
        Due.due("reading", x.reading(0, 0, 0, true), FULL);
        Due.due("edges", x.edges(5, 3), UNKNOWN);
        Due.due("odds", x.odds(5, 10, 2), WavePass.LOST);
        Due.due("sheet", x.sheet(4, 3, -1), UNKNOWN);
        Due.due("sheet", x.sheet(3, 3, -1), OUTSIDE);
        Due.due("put", x.put(4, -1, 0), UNKNOWN);
        Due.due("cell", x.cell(4, -1, 3), WavePass.LOST);
        Due.due("copy", x.copy(3, -1, 4, -1, -1), UNKNOWN);
        Due.due("copy", x.copy(4, -1, 3, -1, -1), UNKNOWN);
        Due.due("as", x.as(5, 3), UNKNOWN);
        Due.due("as", x.as(0, 3), OUTSIDE);
    }

    private static void refusalsWithoutACoast() {
        Due.says("STATE (as told)");
        WavePass x = bare();
        Due.due("slack", x.slack(10), OUTSIDE);
        Due.due("slack", x.slack(0), STATE);
        Due.due("most", x.most(), STATE);
        Due.due("letGo", x.letGo(-1, 10), STATE);
        Due.due("fewest", x.fewest(10), OUTSIDE);
        Due.due("fewest", x.fewest(0), STATE);
        Due.due("voyages, a FAULT comes ahead", x.voyages(-1, 2, 2, 0, 20, 0), STATE);
        Due.due("voyages, a FAULT comes ahead", x.voyages(-1, 2, 2, 1, 20, 0), INDEX);
        Due.due("slacks", x.slacks(), STATE);
        Due.due("back needs no COAST", x.back(0), 0);
        Due.due("many needs no COAST", x.many(0), 0);
        Due.due("sheet needs no COAST", x.sheet(3, 0, 1), 1);
    }

    private static void refusalsChangeNothing() {
        Due.says("they change nothing (but fault(), of a call that names FAULTS)");
        WavePass x = full();
        Line.Call[] naming = {(y, a) -> y.coast(4, 0, 0, 27), (y, a) -> y.coast(0, 3, 0, 27),
            (y, a) -> y.voyages(0, -1, 0, 0, 0, 0), (y, a) -> y.voyages(0, 2, 3, 0, 0, 0),
            (y, a) -> y.voyages(0, 2, 2, 0, 21, 0), (y, a) -> y.voyages(0, 2, 2, 0, 0, 9),
            (y, a) -> y.voyages(-1, 2, 2, 0, 0, 0), (y, a) -> y.sheet(4, 0, 1), (y, a) -> y.sheet(0, 3, 1),
            (y, a) -> y.sheet(0, 0, 61), (y, a) -> y.put(-1, 0, 1), (y, a) -> y.cell(-1, 0, 0),
            (y, a) -> y.cell(0, 0, 3), (y, a) -> y.copy(0, 0, 4, 0, 1), (y, a) -> y.copy(-1, 0, 0, 1, 1),
            (y, a) -> y.as(5, 0), (y, a) -> y.as(0, -1)};
        for (Line.Call call : naming) {
            Due.makeFault(x);
            Due.due("refused", call.on(x, new int[0]) < 0 ? 1 : 0, 1);
            Due.due("fault() is 0", x.fault(), 0);
        }
        Due.makeFault(x);
        Line.Call[] others = {(y, a) -> y.trim(0, 0, 10), (y, a) -> y.trim(0, 3, 1), (y, a) -> y.slack(-1),
            (y, a) -> y.reading(0, 0, 10, true), (y, a) -> y.reading(0, 5, 0, true), (y, a) -> y.back(4),
            (y, a) -> y.edges(0, 3), (y, a) -> y.lose(4), (y, a) -> y.tell(5), (y, a) -> y.seal(-1),
            (y, a) -> y.kinds(5), (y, a) -> y.many(3), (y, a) -> y.letGo(32, 0), (y, a) -> y.odds(5, 0, 0)};
        for (Line.Call call : others) {
            Due.due("refused", call.on(x, new int[0]) < 0 ? 1 : 0, 1);
        }
        Due.due("fault() is left", x.fault(), Due.SIZE);
        Due.dueSame("all that is seen", look(x), look(full()));
    }

    private static void faults() {
        Due.says("FAULTS are the machine's: 1 NULL (there is nothing), 2 CAST (it is of another lane, kind), 3 INDEX");
        Calls.coast(Harbour::full, 3, 0, 0, 0).always(NULL).check();
        Calls.voyages(Harbour::full, 0, 3, 0, 0, 0, 0).always(NULL).check();
        Calls.put(Harbour::full, 3, 0, 0).always(NULL).check();
        Calls.cell(Harbour::full, 3, 0, 0).always(NULL).check();
        Calls.copy(Harbour::full, 3, 0, 0, 0, 0).always(NULL).check();
        Calls.copy(Harbour::full, 0, 0, 3, 0, 0).always(NULL).check();
        Calls.coast(Harbour::full, 0, 1, 0, 0).always(CAST).check();
        Calls.voyages(Harbour::full, 0, 2, 0, 0, 0, 0).always(CAST).check();
        Calls.cell(Harbour::full, 1, 0, 2).always(CAST).check();
        Calls.copy(Harbour::full, 0, 0, 1, 0, 0).always(CAST).check();
        Calls.as(Harbour::full, 1, 2).always(CAST).check();
        Calls.coast(Harbour::full, 0, 0, 0, 28).always(INDEX).check();
        Calls.voyages(Harbour::full, 0, 2, 2, 1, 20, 0).always(INDEX).check();
        Calls.put(Harbour::full, 1, 12, 0).always(INDEX).check();
        Calls.cell(Harbour::full, 1, 12, 1).always(INDEX).check();
        Calls.copy(Harbour::full, 0, 27, 0, 0, 1).always(INDEX).check();
        Due.says("4 SIZE (a length below 0)");
        Calls.coast(Harbour::full, 0, 0, 0, -1).always(SIZE).check();
        Calls.sheet(Harbour::full, 0, 0, -1).always(SIZE).check();
    }

    private static void firstFaultThatIsComeTo() {
        Due.says("Of a call the first that is come to, in the order told; it answers -10 less it (LOST, where a long is "
            + "answered, as for refusals) and changes nothing; fault() tells it. NONE is -9.");
        Calls.coast(Harbour::full, 2, 0, -1, -1).always(CAST).check();
        Calls.coast(Harbour::full, 3, 0, -1, -1).always(NULL).check();
        Calls.coast(Harbour::full, 0, 0, -1, -1).always(SIZE).check();
        Calls.voyages(Harbour::full, 32, 2, 0, -1, 20, 0).always(CAST).check();
        Calls.voyages(Harbour::full, 32, 3, 0, -1, 20, 0).always(NULL).check();
        Calls.voyages(Harbour::full, 32, 2, 2, -1, 20, 0).always(INDEX).check();
        Calls.put(Harbour::full, 3, -1, 0).always(NULL).check();
        Calls.cell(Harbour::full, 2, -1, 0).always(CAST).check();
        Calls.cell(Harbour::full, 3, -1, 0).always(NULL).check();
        Calls.copy(Harbour::full, 3, -1, 0, -1, -1).always(NULL).check();
        Calls.copy(Harbour::full, 0, -1, 3, -1, -1).always(NULL).check();
        Calls.copy(Harbour::full, 0, -1, 1, -1, -1).always(CAST).check();
        Due.due("NONE", WavePass.NONE, -9);
        Due.says("INDEX: not all cells are there; -100 less it");
        // The text from i on is wrong, too, but it is come to behind its cells.
        Calls.coast(Harbour::full, 0, 0, 1, 27).always(INDEX).check();
        Calls.coast(Harbour::full, 2, 2, 0, 41).always(INDEX).check();
        Calls.coast(Harbour::full).taken(-100, 0, 0, 1, 26).taken(-100, 2, 2, 0, 40);
    }

    // ---- sheets, bodies, objects

    private static void sheetsAtFirst() {
        Due.says("SHEETS 0 .. 3 have nothing (at first), or a row of 0 .. 60 numbers (0 at first) of a LANE: 0 bytes, "
            + "1 shorts, 2 ints");
        for (int k = 0; k <= 3; k++) {
            WavePass x = new WavePass();
            Due.dueFault(x, "nothing", x.put(k, 0, 1), Due.NULL);
            Due.due("nothing", x.lose(k), 0);
            for (int lane = 0; lane <= 2; lane++) {
                Due.due("a row", x.sheet(k, lane, 60), 1);
                Due.due("0 at first", x.cell(k, 59, lane), 0);
                Due.due("put", x.put(k, 59, 70000), 1);
                Due.due("cut to its LANE", x.cell(k, 59, lane), new int[] {112, 4464, 70000}[lane]);
            }
        }
    }

    /** What TRACE becomes from what it was, as bodies leave their numbers. */
    private static int left(int trace, int... bodies) {
        long all = trace;
        for (int body : bodies) {
            all = (int) (all * 31 + body);
        }
        return (int) all;
    }

    private static void bodiesAsTheyBegin() {
        Due.says("TELLING of PASSES by bodies that leave their number in TRACE (an int that wraps, 0 at first, becomes 31 "
            + "times it and the number) as they begin: PASS (1): its HEIGHTS together. LENT (2): what PASS's gives, and "
            + "100. DRAWN (3): what LENT's gives, and what PASS's gives (LENT's left out). SEALED by a lent body (4): "
            + "its number; DRAWN ones have their own (5): 70.");
        int[][] told = {{1}, {2, 1}, {3, 2, 1, 1}};
        int[][] sealed = {{4}, {4}, {5}};
        for (int kind = 0; kind <= 2; kind++) {
            char letter = "pld".charAt(kind);
            WavePass x = coastBy("e0;p000;" + letter + "247");
            Due.due("0 at first", x.trace(), 0);
            Due.due("tell " + letter, x.tell(1), new int[] {13, 113, 126}[kind]);
            Due.due("bodies of " + letter, x.trace(), left(0, told[kind]));
            Due.due("seal " + letter, x.seal(1), kind == 2 ? 70 : 1);
            Due.due("bodies of " + letter, x.trace(), left(left(0, told[kind]), sealed[kind]));
        }
    }

    private static void bodiesOneBehindAnother() {
        Due.says("(an int that wraps, 0 at first, becomes 31 times it and the number)");
        WavePass x = coastBy("e0;p001;l020;d300");
        int trace = 0;
        Random random = new Random(5);
        for (int call = 0; call < 150; call++) {
            int p = random.nextInt(3);
            if (random.nextBoolean()) {
                Due.due("tell", x.tell(p), new int[] {1, 102, 106}[p]);
                trace = left(trace, new int[][] {{1}, {2, 1}, {3, 2, 1, 1}}[p]);
            } else {
                Due.due("seal", x.seal(p), new int[] {0, 1, 70}[p]);
                trace = left(trace, p == 2 ? 5 : 4);
            }
            Due.due("TRACE", x.trace(), trace);
        }
    }

    private static void traceIsKept() {
        Due.says("`int trace()`: TRACE.");
        WavePass x = full();
        int trace = left(0, 3, 2, 1, 1);
        Due.due("TRACE", x.trace(), trace);
        Due.due("told again", x.trace(), trace);
        Due.due("coast", x.coast(1, 1, 0, 12), 2);
        Due.due("TRACE is kept by a COAST made anew", x.trace(), trace);
        Due.due("kinds asks no body", x.kinds(0), 7);
        Due.due("TRACE", x.trace(), trace);
    }

    private static void objectsAreTheirOwn() {
        Due.says("No COAST (no PASSES), SHEETS have nothing.");
        WavePass one = crowded();
        WavePass other = new WavePass();
        Due.dueFault(one, "a FAULT of the one", one.put(3, 0, 0), Due.NULL);
        Due.dueSame("a new object beside it", look(other), look(new WavePass()));
        Due.due("no FAULT of the other", new WavePass().fault(), 0);
        WavePass third = coastBy("e9;d987;l654");
        Due.due("reading", third.reading(0, 1, 2, true), 0);
        Due.due("tell", third.tell(1), 115);
        Due.due("sheet", third.sheet(2, 0, 7), 1);
        Due.due("fewest", third.fewest(0), 2);
        Due.dueSame("the one is as it was", look(one), look(crowded()));
    }

    private static void lastCallsOfAnObject() {
        Due.says("An object is used for at most 512 calls after it has been made");
        // full() lays 27, 12 and 40 cells and three rows, and makes five calls more.
        int made = 27 + 12 + 40 + 3 + 5;
        WavePass early = full();
        for (int last = 0; last < EACH_CALL.length; last++) {
            long due = EACH_CALL[last].on(early, new int[0]);
            WavePass x = full();
            for (int calls = made; calls < 512 - 1 - last; calls++) {
                Due.due("many", x.many(0), 5);
            }
            for (int k = 0; k < last; k++) {
                EACH_CALL[k].on(x, new int[0]);
            }
            Due.due("the 512th call, " + last, EACH_CALL[last].on(x, new int[0]), due);
        }
    }

    /** Each call of the face; those that change what the ones behind them answer come last. */
    private static final Line.Call[] EACH_CALL = {(y, a) -> y.trace(), (y, a) -> y.ofPass(0, 1),
        (y, a) -> y.worn(0, 0, 1), (y, a) -> y.off(0, 4, 2), (y, a) -> y.fits(0, 0), (y, a) -> y.match(0, 1),
        (y, a) -> y.last(0), (y, a) -> y.alike(0), (y, a) -> y.most(), (y, a) -> y.letGo(31, 1), (y, a) -> y.fewest(0),
        (y, a) -> y.voyages(31, 2, 2, 0, 20, 0), (y, a) -> y.edges(1, 2), (y, a) -> y.kinds(1), (y, a) -> y.slacks(),
        (y, a) -> y.odds(0, 0, 1), (y, a) -> y.cell(2, 39, 2), (y, a) -> y.many(2), (y, a) -> y.as(0, 1),
        (y, a) -> y.fault(), (y, a) -> y.reading(0, 0, 0, true), (y, a) -> y.back(1), (y, a) -> y.tell(4),
        (y, a) -> y.seal(4), (y, a) -> y.trim(0, 0, 9), (y, a) -> y.slack(9), (y, a) -> y.put(2, 0, 4),
        (y, a) -> y.copy(2, 0, 2, 1, 39), (y, a) -> y.sheet(3, 2, 60), (y, a) -> y.lose(2),
        (y, a) -> y.coast(1, 1, 0, 12)};

    // ---- coasts by chance

    private void passesOfAText() {
        Due.says("A COAST by a TEXT: e, a digit 0 .. 9 (SLACK), then 2 to 6 PASSES, numbered from 0 on, each: ; and a "
            + "letter, three digits 0 .. 9 (HEIGHTS of its edge at PLACES 0, 1, 2)");
        due("PASSES", x.many(0), passes);
        due("SLACK", x.many(1), slack);
        for (int p = 0; p < passes; p++) {
            due("kind of " + p, x.ofPass(p, 0), "pld".indexOf(text.charAt(3 + 5 * p)));
            for (int place = 0; place < 3; place++) {
                due("HEIGHT of " + p + " at " + place, x.ofPass(p, 1 + place), text.charAt(4 + 5 * p + place) - '0');
            }
        }
        due("no PASS more", x.ofPass(passes, 0), UNKNOWN);
    }

    private void halvesOff() {
        for (int m = 0; m <= 9; m += 1 + m / 2) {
            for (int q = 0; q < passes; q++) {
                Due.says("WORN is the lower one behind m MONTHS: of a PASS by m; of a LENT one by 1 more; of a DRAWN one "
                    + "by twice what that of a PASS is: each of its HEIGHTS is so much less (0 at least).");
                int[] lower = new int[3];
                for (int place = 0; place < 3; place++) {
                    int by = new int[] {m, m + 1, 2 * m}["pld".indexOf(text.charAt(3 + 5 * q))];
                    lower[place] = Math.max(0, text.charAt(4 + 5 * q + place) - '0' - by);
                    due("worn", x.worn(q, place, m), lower[place]);
                }
                Due.says("OFF are an upper half and a lower one behind m MONTHS by the differences of their HEIGHTS at "
                    + "all three PLACES together");
                for (int p = 0; p < passes; p++) {
                    int sum = 0;
                    for (int place = 0; place < 3; place++) {
                        sum += Math.abs(text.charAt(4 + 5 * p + place) - '0' - lower[place]);
                    }
                    due("off " + p + " " + q + " behind " + m, x.off(p, q, m), sum);
                }
            }
        }
    }

    private void matchOfALowerHalf() {
        Due.says("They FIT, if they are OFF by no more than SLACK");
        for (int m = 0; m <= 9; m += 1 + m) {
            for (int q = 0; q < passes; q++) {
                int set = 0;
                int best = NONE;
                int least = slack + 1;
                for (int p = 0; p < passes; p++) {
                    int by = x.off(p, q, m);
                    set |= by <= slack ? 1 << p : 0;
                    if (by < least) {
                        best = p;
                        least = by;
                    }
                }
                due("fits " + q + " behind " + m, x.fits(q, m), set);
                due("match " + q + " behind " + m, x.match(q, m), best);
            }
        }
    }

    private void goodPasses() {
        Due.says("GOOD is a PASS behind m MONTHS, if its own halves FIT; LAST: the greatest m (0 to 9) behind which it is "
            + "GOOD; NONE.");
        Due.layInts(x, 0, 0, 0);
        for (int p = 0; p < passes; p++) {
            int last = NONE;
            for (int m = 0; m <= 9; m++) {
                boolean good = has(x.fits(p, m), p);
                last = good ? m : last;
                Due.due("put", x.put(0, 0, p), 1);
                Due.due("put", x.put(0, 1, m), 1);
                due(p + " behind " + m + " is TAKEN and was GOOD", x.voyages(0, 0, 2, 0, 1, 3), good ? 1 : 0);
            }
            due("last " + p, x.last(p), last);
        }
    }

    private void mostOfWhichNoTwoAreAlike() {
        Due.says("ALIKE are two PASSES whose upper halves differ by no more than SLACK (as OFF is told). MOST: the set of "
            + "the most PASSES of which no two are ALIKE: of several the least.");
        int[] alike = new int[passes];
        for (int p = 0; p < passes; p++) {
            for (int q = 0; q < passes; q++) {
                int sum = 0;
                for (int what = 1; what <= 3; what++) {
                    sum += Math.abs(text.charAt(3 + 5 * p + what) - text.charAt(3 + 5 * q + what));
                }
                alike[p] |= p != q && sum <= slack ? 1 << q : 0;
            }
            due("alike " + p, x.alike(p), alike[p]);
        }
        int most = 0;
        for (int set = 1; set < 1 << passes; set++) {
            boolean two = false;
            for (int p = 0; p < passes; p++) {
                two |= has(set, p) && (alike[p] & set) != 0;
            }
            most = !two && Integer.bitCount(set) > Integer.bitCount(most) ? set : most;
        }
        due("most", x.most(), most);
    }

    private void whoHoldsASet(int m) {
        Due.says("A corsair who HOLDS a set of upper halves lets go a ship whose lower half one of them FITS; else it is "
            + "TAKEN.");
        int[] fits = new int[passes];
        for (int q = 0; q < passes; q++) {
            fits[q] = x.fits(q, m);
        }
        for (int set = 0; set < 1 << passes; set++) {
            int free = 0;
            for (int q = 0; q < passes; q++) {
                free |= (fits[q] & set) != 0 ? 1 << q : 0;
            }
            due("letGo " + set + " behind " + m, x.letGo(set, m), free);
        }
    }

    private void fewestUpperHalves(int m) {
        Due.says("FEWEST behind m MONTHS: the fewest upper halves by which ships of all PASSES are let go: as a set: of "
            + "several the least; NONE: there is none.");
        int all = (1 << passes) - 1;
        int fewest = NONE;
        for (int set = 0; set <= all; set++) {
            if (x.letGo(set, m) == all && (fewest == NONE || Integer.bitCount(set) < Integer.bitCount(fewest))) {
                fewest = set;
            }
        }
        due("fewest behind " + m, x.fewest(m), fewest);
    }

    private void shareOfSets(int m) {
        Due.says("ODDS of a PASS behind m MONTHS: if a corsair HOLDS each upper half, or does not, all such sets alike: "
            + "the share by which its ship is let go.");
        int[] free = new int[passes];
        int sets = 1 << passes;
        for (int set = 0; set < sets; set++) {
            int gone = x.letGo(set, m);
            for (int q = 0; q < passes; q++) {
                free[q] += gone >> q & 1;
            }
        }
        for (int q = 0; q < passes; q++) {
            int common = sets;
            while (sets % common != 0 || free[q] % common != 0) {
                common--;
            }
            due("upper number of " + q + " behind " + m, x.odds(q, m, 0), free[q] / common);
            due("lower number of " + q + " behind " + m, x.odds(q, m, 1), sets / common);
        }
    }

    private void voyagesThatAreTold() {
        Due.says("VOYAGES told: a row of pairs (PASS, MONTHS), one behind another, that meet such a corsair.");
        Random random = new Random(text.hashCode());
        int n = 1 + random.nextInt(20);
        int[] cells = new int[3 + 2 * n];
        for (int k = 0, m = 0; k < n; k++) {
            m = Math.min(9, m + (random.nextInt(4) == 0 ? 1 : 0));
            cells[3 + 2 * k] = random.nextInt(passes);
            cells[4 + 2 * k] = m;
        }
        Due.layInts(x, 1, cells);
        int set = random.nextInt(1 << passes);
        int free = 0;
        int first = NONE;
        int good = 0;
        int[] often = new int[6];
        for (int k = 0; k < n; k++) {
            int p = cells[3 + 2 * k];
            int m = cells[4 + 2 * k];
            if (has(x.letGo(set, m), p)) {
                free++;
                continue;
            }
            first = first == NONE ? k : first;
            good += x.off(p, p, m) <= slack ? 1 : 0;
            often[p]++;
        }
        Due.says("VOYAGES of n pairs, that are cells of a SHEET from i on (2 n), by who HOLDS a set: how many are let go "
            + "(what 0), the FIRST WRONG (1; NONE), the first pair that is TAKEN (2; NONE), how many of those that are "
            + "TAKEN were GOOD (3), how often PASS p is TAKEN (10 and p; NONE: there is no such PASS); of those with a "
            + "FIRST WRONG: -100 less that (but what 1).");
        due("let go", x.voyages(set, 1, 2, 3, n, 0), free);
        due("FIRST WRONG", x.voyages(set, 1, 2, 3, n, 1), NONE);
        due("first TAKEN", x.voyages(set, 1, 2, 3, n, 2), first);
        due("GOOD", x.voyages(set, 1, 2, 3, n, 3), good);
        for (int p = 0; p < 6; p++) {
            due("how often " + p, x.voyages(set, 1, 2, 3, n, 10 + p), p < passes ? often[p] : NONE);
        }
        if (n > 1 && cells[2 + 2 * n] < 9) {
            Due.due("put", x.put(1, 2 * n, 9), 1);
            for (int what = 0; what <= 15; what += what == 3 ? 7 : 1) {
                due("with a FIRST WRONG", x.voyages(set, 1, 2, 3, n, what), what == 1 ? n - 1 : -100 - (n - 1));
            }
        }
    }

    /** READINGS, most of which are so: upper half, lower half, MONTHS, and 1 if they did FIT. */
    private int[][] layReadings() {
        Random random = new Random(text.hashCode() + 1);
        int[][] all = new int[1 + random.nextInt(8)][];
        for (int k = 0; k < all.length; k++) {
            int[] one = {random.nextInt(passes), random.nextInt(passes), random.nextInt(random.nextBoolean() ? 3 : 10), 0};
            boolean fit = x.off(one[0], one[1], one[2]) <= slack;
            boolean did = fit ^ random.nextInt(20) == 0;
            one[3] = did ? 1 : 0;
            due("number", x.reading(one[0], one[1], one[2], did), k);
            all[k] = one;
        }
        return all;
    }

    private static boolean areSo(WavePass y, int[][] readings) {
        for (int[] one : readings) {
            if ((y.off(one[0], one[1], one[2]) <= y.many(1) ? 1 : 0) != one[3]) {
                return false;
            }
        }
        return true;
    }

    private void edgesByReadings() {
        Due.says("All that follows (by how all is when it is asked): in place of what it is alone, by which all READINGS "
            + "are so: EDGES of a PASS and a PLACE: HEIGHTS 0 .. 9, as a set");
        int[][] readings = layReadings();
        for (int p = 0; p < passes; p++) {
            for (int place = 0; place < 3; place++) {
                WavePass y = coastBy(text);
                int set = 0;
                for (int v = 0; v <= 9; v++) {
                    y.trim(p, place, v);
                    set |= areSo(y, readings) ? 1 << v : 0;
                }
                due("edges " + p + " " + place, x.edges(p, place), set);
            }
        }
    }

    private void kindsAndSlacksByReadings() {
        Due.says("KINDS of a PASS: 0 .. 2, as a set; SLACKS: 0 .. 9, as a set.");
        int[][] readings = layReadings();
        for (int p = 0; p < passes; p++) {
            int set = 0;
            for (int kind = 0; kind <= 2; kind++) {
                String other = text.substring(0, 3 + 5 * p) + "pld".charAt(kind) + text.substring(4 + 5 * p);
                set |= areSo(coastBy(other), readings) ? 1 << kind : 0;
            }
            due("kinds " + p, x.kinds(p), set);
        }
        int set = 0;
        WavePass y = coastBy(text);
        for (int v = 0; v <= 9; v++) {
            y.slack(v);
            set |= areSo(y, readings) ? 1 << v : 0;
        }
        due("slacks", x.slacks(), set);
    }

    private void asOneOfAKind() {
        Due.says("Kinds: 0 PASS (p); 1 LENT one (l), a PASS; 2 DRAWN one (d), a LENT one.");
        for (int p = 0; p < passes; p++) {
            int is = "pld".indexOf(text.charAt(3 + 5 * p));
            for (int kind = 0; kind <= 2; kind++) {
                due(p + " as " + kind, x.as(p, kind), kind <= is ? 1 : CAST);
            }
        }
    }
}
