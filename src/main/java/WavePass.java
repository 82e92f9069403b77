import java.util.Arrays;

/** Ships' passes cut along a wave, and the corsairs who lay the halves together. */
public final class WavePass {
    public static final int UNKNOWN = -1, OUTSIDE = -2, STATE = -3, FULL = -4, NONE = -9;
    public static final long LOST = Long.MIN_VALUE;

    private static final int NO_FAULT = 0, NULL = 1, CAST = 2, INDEX = 3, SIZE = 4;
    private static final int FAULT_BASE = -10, WRONG_BASE = -100;
    private static final int NOT_REFUSED = 0;

    private static final int SHEETS = 4, CELLS = 60;
    private static final int NO_LANE = -1, BYTES = 0, SHORTS = 1, INTS = 2;

    private static final int FEWEST_PASSES = 2, MOST_PASSES = 6, PLACES = 3;
    private static final int OF_PASS = 0, OF_LENT = 1, OF_DRAWN = 2;
    private static final int HIGHEST = 9, MOST_SLACK = 9, MOST_MONTHS = 9;

    private static final int HEAD_CODES = 2, PASS_CODES = 5;

    private static final int MOST_PAIRS = 20, MOST_READINGS = 8;
    private static final int ASK_LET_GO = 0, ASK_WRONG = 1, ASK_TAKEN = 2, ASK_GOOD = 3, ASK_OF_PASS = 10;

    private static final int PASS_BODY = 1, LENT_BODY = 2, DRAWN_BODY = 3, SEAL_BODY = 4, DRAWN_SEAL_BODY = 5;

    private final Sheet[] sheets = new Sheet[SHEETS];
    private final Coast shore = new Coast();
    private final Voyages told = new Voyages();
    private final Readings read = new Readings();
    private int traced = 0;
    private int latestFault = NO_FAULT;

    public WavePass() {
        for (int k = 0; k < SHEETS; k++) {
            sheets[k] = new Sheet();
        }
    }

    // ---- 1 the coast

    public int coast(int sheet, int lane, int i, int n) {
        latestFault = NO_FAULT;
        if (!isSheet(sheet)) {
            return UNKNOWN;
        }
        if (!isLane(lane)) {
            return OUTSIDE;
        }
        latestFault = faultOfText(sheets[sheet], lane, i, n);
        if (latestFault != NO_FAULT) {
            return FAULT_BASE - latestFault;
        }
        int wrong = Coast.firstWrongCode(sheets[sheet], i, n);
        if (wrong != NONE) {
            return WRONG_BASE - wrong;
        }
        shore.takeText(sheets[sheet], i, n);
        read.dropLast(read.howMany());
        return shore.howMany();
    }

    public int ofPass(int p, int what) {
        if (!shore.hasPass(p)) {
            return UNKNOWN;
        }
        if (!within(what, 0, PLACES)) {
            return OUTSIDE;
        }
        return what == 0 ? shore.kindOf(p) : shore.heightOf(p, what - 1);
    }

    public int trim(int p, int place, int v) {
        if (!shore.hasPass(p)) {
            return UNKNOWN;
        }
        if (!isPlace(place) || !within(v, 0, HIGHEST)) {
            return OUTSIDE;
        }
        int was = shore.heightOf(p, place);
        shore.setHeight(p, place, v);
        return was;
    }

    public int slack(int v) {
        if (!within(v, 0, MOST_SLACK)) {
            return OUTSIDE;
        }
        if (!shore.stands()) {
            return STATE;
        }
        int was = shore.slackNow();
        shore.setSlack(v);
        return was;
    }

    public int worn(int p, int place, int m) {
        if (!shore.hasPass(p)) {
            return UNKNOWN;
        }
        if (!isPlace(place) || !isMonths(m)) {
            return OUTSIDE;
        }
        return shore.lowerHeight(p, place, m);
    }

    // ---- 2 halves laid together

    public int off(int p, int q, int m) {
        if (!shore.hasPass(p) || !shore.hasPass(q)) {
            return UNKNOWN;
        }
        return isMonths(m) ? shore.apart(p, q, m) : OUTSIDE;
    }

    public int fits(int q, int m) {
        if (!shore.hasPass(q)) {
            return UNKNOWN;
        }
        return isMonths(m) ? shore.fitting(q, m) : OUTSIDE;
    }

    public int match(int q, int m) {
        if (!shore.hasPass(q)) {
            return UNKNOWN;
        }
        return isMonths(m) ? shore.closestFitting(q, m) : OUTSIDE;
    }

    public int last(int p) {
        return shore.hasPass(p) ? shore.lastGood(p) : UNKNOWN;
    }

    public int alike(int p) {
        return shore.hasPass(p) ? shore.likeness(p) : UNKNOWN;
    }

    public int most() {
        return shore.stands() ? shore.mostUnlike() : STATE;
    }

    // ---- 3 corsairs

    public int letGo(int set, int m) {
        if (!shore.stands()) {
            return STATE;
        }
        if (!shore.isSet(set) || !isMonths(m)) {
            return OUTSIDE;
        }
        shore.layAll(m);
        return shore.freedBy(set);
    }

    public int fewest(int m) {
        if (!isMonths(m)) {
            return OUTSIDE;
        }
        if (!shore.stands()) {
            return STATE;
        }
        shore.layAll(m);
        return shore.fewestFreeing();
    }

    public int voyages(int set, int sheet, int lane, int i, int n, int what) {
        latestFault = NO_FAULT;
        if (!isSheet(sheet)) {
            return UNKNOWN;
        }
        if (!isLane(lane) || !within(n, 0, MOST_PAIRS) || !isAskable(what)) {
            return OUTSIDE;
        }
        latestFault = faultOfCells(sheets[sheet], lane, i, 2 * n);
        if (latestFault != NO_FAULT) {
            return FAULT_BASE - latestFault;
        }
        if (!shore.stands()) {
            return STATE;
        }
        if (!shore.isSet(set)) {
            return OUTSIDE;
        }
        told.load(sheets[sheet], i, n);
        int refusal = told.refusal(shore);
        return refusal == NOT_REFUSED ? meet(set, what) : refusal;
    }

    private int meet(int set, int what) {
        int wrong = told.firstWrongPair();
        if (what == ASK_WRONG) {
            return wrong;
        }
        if (wrong != NONE) {
            return WRONG_BASE - wrong;
        }
        int taken = told.takenBy(shore, set);
        switch (what) {
            case ASK_LET_GO: return told.howMany() - Integer.bitCount(taken);
            case ASK_TAKEN: return told.firstOf(taken);
            case ASK_GOOD: return Integer.bitCount(taken & told.goodOnes(shore));
            default: return howOften(taken, what - ASK_OF_PASS);
        }
    }

    private int howOften(int taken, int p) {
        return shore.hasPass(p) ? Integer.bitCount(taken & told.onesOf(p)) : NONE;
    }

    // ---- 4 what fitted

    public int reading(int p, int q, int m, boolean did) {
        if (!shore.hasPass(p) || !shore.hasPass(q)) {
            return UNKNOWN;
        }
        if (!isMonths(m)) {
            return OUTSIDE;
        }
        if (read.howMany() >= MOST_READINGS) {
            return FULL;
        }
        read.append(p, q, m, did);
        return read.howMany() - 1;
    }

    public int back(int k) {
        if (!within(k, 0, read.howMany())) {
            return OUTSIDE;
        }
        read.dropLast(k);
        return read.howMany();
    }

    public int edges(int p, int place) {
        if (!shore.hasPass(p)) {
            return UNKNOWN;
        }
        if (!isPlace(place)) {
            return OUTSIDE;
        }
        int was = shore.heightOf(p, place);
        int set = 0;
        for (int v = 0; v <= HIGHEST; v++) {
            shore.setHeight(p, place, v);
            set |= bitIf(read.areSo(shore), v);
        }
        shore.setHeight(p, place, was);
        return set;
    }

    public int kinds(int p) {
        if (!shore.hasPass(p)) {
            return UNKNOWN;
        }
        int was = shore.kindOf(p);
        int set = 0;
        for (int kind = OF_PASS; kind <= OF_DRAWN; kind++) {
            shore.setKind(p, kind);
            set |= bitIf(read.areSo(shore), kind);
        }
        shore.setKind(p, was);
        return set;
    }

    public int slacks() {
        if (!shore.stands()) {
            return STATE;
        }
        int was = shore.slackNow();
        int set = 0;
        for (int v = 0; v <= MOST_SLACK; v++) {
            shore.setSlack(v);
            set |= bitIf(read.areSo(shore), v);
        }
        shore.setSlack(was);
        return set;
    }

    public long odds(int q, int m, int which) {
        if (!shore.hasPass(q) || !isMonths(m) || !within(which, 0, 1)) {
            return LOST;
        }
        // One set in 2^f has none of the f halves that fit; an odd number over a power of two is in least terms.
        long lower = 1L << Integer.bitCount(shore.fitting(q, m));
        return which == 0 ? lower - 1 : lower;
    }

    // ---- 5 sheets, parts

    public int sheet(int k, int lane, int n) {
        latestFault = NO_FAULT;
        if (!isSheet(k)) {
            return UNKNOWN;
        }
        if (!isLane(lane) || n > CELLS) {
            return OUTSIDE;
        }
        if (n < 0) {
            return failBy(SIZE);
        }
        sheets[k].begin(lane, n);
        return 1;
    }

    public int lose(int k) {
        if (!isSheet(k)) {
            return UNKNOWN;
        }
        if (sheets[k].hasNothing()) {
            return 0;
        }
        sheets[k].drop();
        return 1;
    }

    public int put(int k, int i, int v) {
        latestFault = NO_FAULT;
        if (!isSheet(k)) {
            return UNKNOWN;
        }
        if (sheets[k].hasNothing()) {
            return failBy(NULL);
        }
        if (!sheets[k].hasCell(i)) {
            return failBy(INDEX);
        }
        sheets[k].write(i, v);
        return 1;
    }

    public long cell(int k, int i, int lane) {
        latestFault = NO_FAULT;
        if (!isSheet(k) || !isLane(lane)) {
            return LOST;
        }
        latestFault = faultOfRow(sheets[k], lane);
        if (latestFault == NO_FAULT && !sheets[k].hasCell(i)) {
            latestFault = INDEX;
        }
        return latestFault == NO_FAULT ? sheets[k].at(i) : LOST;
    }

    public int copy(int k, int i, int other, int j, int n) {
        latestFault = NO_FAULT;
        if (!isSheet(k) || !isSheet(other)) {
            return UNKNOWN;
        }
        Sheet from = sheets[k];
        Sheet to = sheets[other];
        if (from.hasNothing() || to.hasNothing()) {
            return failBy(NULL);
        }
        if (to.isOfAnother(from.laneNow())) {
            return failBy(CAST);
        }
        if (!from.hasCells(i, n) || !to.hasCells(j, n)) {
            return failBy(INDEX);
        }
        to.takeCells(j, from, i, n);
        return n;
    }

    public int tell(int p) {
        if (!shore.hasPass(p)) {
            return UNKNOWN;
        }
        switch (shore.kindOf(p)) {
            case OF_DRAWN: return tellAsDrawn(p);
            case OF_LENT: return tellAsLent(p);
            default: return tellAsPass(p);
        }
    }

    public int seal(int p) {
        if (!shore.hasPass(p)) {
            return UNKNOWN;
        }
        return shore.kindOf(p) == OF_DRAWN ? sealAsDrawn() : sealAsAny(p);
    }

    public int as(int p, int kind) {
        latestFault = NO_FAULT;
        if (!shore.hasPass(p)) {
            return UNKNOWN;
        }
        if (!within(kind, OF_PASS, OF_DRAWN)) {
            return OUTSIDE;
        }
        // Each kind is all the kinds of lesser numbers, too.
        return kind <= shore.kindOf(p) ? 1 : failBy(CAST);
    }

    public int trace() {
        return traced;
    }

    public int fault() {
        return latestFault;
    }

    public int many(int what) {
        switch (what) {
            case 0: return shore.howMany();
            case 1: return shore.slackNow();
            case 2: return read.howMany();
            default: return OUTSIDE;
        }
    }

    // ---- the bodies of TELLING and SEALED

    private int tellAsPass(int p) {
        leave(PASS_BODY);
        int together = 0;
        for (int place = 0; place < PLACES; place++) {
            together += shore.heightOf(p, place);
        }
        return together;
    }

    private int tellAsLent(int p) {
        leave(LENT_BODY);
        return tellAsPass(p) + 100;
    }

    private int tellAsDrawn(int p) {
        leave(DRAWN_BODY);
        int byLent = tellAsLent(p);
        return byLent + tellAsPass(p);
    }

    private int sealAsAny(int p) {
        leave(SEAL_BODY);
        return p;
    }

    private int sealAsDrawn() {
        leave(DRAWN_SEAL_BODY);
        return 70;
    }

    private void leave(int body) {
        traced = 31 * traced + body;
    }

    // ---- faults

    private int failBy(int fault) {
        latestFault = fault;
        return FAULT_BASE - fault;
    }

    private static int faultOfRow(Sheet row, int lane) {
        if (row.hasNothing()) {
            return NULL;
        }
        return row.isOfAnother(lane) ? CAST : NO_FAULT;
    }

    private static int faultOfCells(Sheet row, int lane, int i, int n) {
        int fault = faultOfRow(row, lane);
        return fault == NO_FAULT && !row.hasCells(i, n) ? INDEX : fault;
    }

    private static int faultOfText(Sheet row, int lane, int i, int n) {
        int fault = faultOfCells(row, lane, i, n);
        // A length below 0 is come to ahead of where its cells lie.
        return fault == INDEX && n < 0 ? SIZE : fault;
    }

    // ---- what numbers may be

    private static boolean within(int v, int least, int greatest) {
        return v >= least && v <= greatest;
    }

    private static boolean isSheet(int k) {
        return within(k, 0, SHEETS - 1);
    }

    private static boolean isLane(int lane) {
        return within(lane, BYTES, INTS);
    }

    private static boolean isPlace(int place) {
        return within(place, 0, PLACES - 1);
    }

    private static boolean isMonths(int m) {
        return within(m, 0, MOST_MONTHS);
    }

    private static boolean isAskable(int what) {
        return within(what, ASK_LET_GO, ASK_GOOD) || within(what, ASK_OF_PASS, ASK_OF_PASS + MOST_PASSES - 1);
    }

    private static int bitIf(boolean holds, int k) {
        return holds ? 1 << k : 0;
    }

    /** A row of numbers of a lane, or nothing; one array serves all rows that are laid here one after another. */
    private static final class Sheet {
        private final int[] cells = new int[CELLS];
        private int lane = NO_LANE;
        private int length = 0;

        void begin(int newLane, int newLength) {
            Arrays.fill(cells, 0);
            lane = newLane;
            length = newLength;
        }

        void drop() {
            lane = NO_LANE;
            length = 0;
        }

        boolean hasNothing() {
            return lane == NO_LANE;
        }

        int laneNow() {
            return lane;
        }

        boolean isOfAnother(int asked) {
            return lane != asked;
        }

        boolean hasCell(int i) {
            return i >= 0 && i < length;
        }

        boolean hasCells(int i, int n) {
            // The last test is a difference, for i + n could wrap.
            return i >= 0 && i <= length && n >= 0 && n <= length - i;
        }

        int at(int i) {
            return hasCell(i) ? cells[i] : 0;
        }

        void write(int i, int v) {
            if (hasCell(i)) {
                cells[i] = cut(v);
            }
        }

        void takeCells(int j, Sheet from, int i, int n) {
            if (hasCells(j, n) && from.hasCells(i, n)) {
                System.arraycopy(from.cells, i, cells, j, n);
            }
        }

        private int cut(int v) {
            switch (lane) {
                case BYTES: return (byte) v;
                case SHORTS: return (short) v;
                default: return v;
            }
        }
    }

    /** The passes with their kinds and heights, and how much may be off. */
    private static final class Coast {
        private final int[] kind = new int[MOST_PASSES];
        private final int[] height = new int[MOST_PASSES * PLACES];
        // One set a pass, for the calls that go through all sets of passes: made once and used again.
        private final int[] linked = new int[MOST_PASSES];
        private int passes = 0;
        private int slackNow = 0;

        static int firstWrongCode(Sheet text, int i, int n) {
            for (int place = 0; place < n; place++) {
                if (!goesOn(place, text.at(i + place))) {
                    return place;
                }
            }
            boolean whole = n >= HEAD_CODES + FEWEST_PASSES * PASS_CODES && (n - HEAD_CODES) % PASS_CODES == 0;
            return whole ? NONE : n;
        }

        private static boolean goesOn(int place, int code) {
            if (place >= HEAD_CODES + MOST_PASSES * PASS_CODES) {
                return false;
            }
            if (place < HEAD_CODES) {
                return place == 0 ? code == 'e' : isDigit(code);
            }
            switch ((place - HEAD_CODES) % PASS_CODES) {
                case 0: return code == ';';
                case 1: return code == 'p' || code == 'l' || code == 'd';
                default: return isDigit(code);
            }
        }

        private static boolean isDigit(int code) {
            return code >= '0' && code <= '9';
        }

        private static int kindByLetter(int code) {
            switch (code) {
                case 'd': return OF_DRAWN;
                case 'l': return OF_LENT;
                default: return OF_PASS;
            }
        }

        /** Takes a text in which there is no wrong code. */
        void takeText(Sheet text, int i, int n) {
            passes = Math.min((n - HEAD_CODES) / PASS_CODES, MOST_PASSES);
            slackNow = text.at(i + 1) - '0';
            for (int p = 0; p < passes; p++) {
                int letter = i + HEAD_CODES + p * PASS_CODES + 1;
                kind[p] = kindByLetter(text.at(letter));
                for (int place = 0; place < PLACES; place++) {
                    setHeight(p, place, text.at(letter + 1 + place) - '0');
                }
            }
        }

        boolean stands() {
            return passes > 0;
        }

        int howMany() {
            return passes;
        }

        boolean hasPass(int p) {
            return p >= 0 && p < passes;
        }

        private int allPasses() {
            return (1 << passes) - 1;
        }

        boolean isSet(int set) {
            return set >= 0 && set <= allPasses();
        }

        int slackNow() {
            return slackNow;
        }

        void setSlack(int v) {
            slackNow = v;
        }

        int kindOf(int p) {
            return hasPass(p) ? kind[p] : OF_PASS;
        }

        void setKind(int p, int v) {
            if (hasPass(p)) {
                kind[p] = v;
            }
        }

        int heightOf(int p, int place) {
            return hasPass(p) && place >= 0 && place < PLACES ? height[p * PLACES + place] : 0;
        }

        void setHeight(int p, int place, int v) {
            if (hasPass(p) && place >= 0 && place < PLACES) {
                height[p * PLACES + place] = v;
            }
        }

        private static int wear(int kind, int m) {
            switch (kind) {
                case OF_DRAWN: return 2 * m;
                case OF_LENT: return m + 1;
                default: return m;
            }
        }

        int lowerHeight(int p, int place, int m) {
            return Math.max(heightOf(p, place) - wear(kindOf(p), m), 0);
        }

        int apart(int upper, int lower, int m) {
            int less = wear(kindOf(lower), m);
            int sum = 0;
            for (int place = 0; place < PLACES; place++) {
                int left = Math.max(heightOf(lower, place) - less, 0);
                sum += Math.abs(heightOf(upper, place) - left);
            }
            return sum;
        }

        boolean doFit(int upper, int lower, int m) {
            return apart(upper, lower, m) <= slackNow;
        }

        int fitting(int lower, int m) {
            int set = 0;
            for (int p = 0; p < passes; p++) {
                set |= bitIf(apart(p, lower, m) <= slackNow, p);
            }
            return set;
        }

        int closestFitting(int lower, int m) {
            int best = NONE;
            int least = slackNow + 1;
            for (int p = 0; p < passes; p++) {
                int by = apart(p, lower, m);
                if (by < least) {
                    best = p;
                    least = by;
                }
            }
            return best;
        }

        int lastGood(int p) {
            for (int m = MOST_MONTHS; m >= 0; m--) {
                if (doFit(p, p, m)) {
                    return m;
                }
            }
            return NONE;
        }

        private boolean areAlike(int p, int q) {
            int sum = 0;
            for (int place = 0; place < PLACES; place++) {
                sum += Math.abs(heightOf(p, place) - heightOf(q, place));
            }
            return sum <= slackNow;
        }

        int likeness(int p) {
            int set = 0;
            for (int q = 0; q < passes; q++) {
                set |= bitIf(q != p && areAlike(p, q), q);
            }
            return set;
        }

        int mostUnlike() {
            for (int p = 0; p < passes; p++) {
                linked[p] = likeness(p);
            }
            int best = 0;
            for (int set = 0; set <= allPasses(); set++) {
                if (Integer.bitCount(set) > Integer.bitCount(best) && noneLinkedWithin(set)) {
                    best = set;
                }
            }
            return best;
        }

        private boolean noneLinkedWithin(int set) {
            for (int p = 0; p < passes; p++) {
                if ((set & 1 << p) != 0 && (linked[p] & set) != 0) {
                    return false;
                }
            }
            return true;
        }

        /** Lays all upper halves on all lower ones behind m months, for freedBy and fewestFreeing. */
        void layAll(int m) {
            for (int q = 0; q < passes; q++) {
                linked[q] = fitting(q, m);
            }
        }

        int freedBy(int held) {
            int set = 0;
            for (int q = 0; q < passes; q++) {
                set |= bitIf((linked[q] & held) != 0, q);
            }
            return set;
        }

        int fewestFreeing() {
            int best = NONE;
            int fewest = passes + 1;
            for (int held = 0; held <= allPasses(); held++) {
                if (Integer.bitCount(held) < fewest && freedBy(held) == allPasses()) {
                    best = held;
                    fewest = Integer.bitCount(held);
                }
            }
            return best;
        }
    }

    /** The pairs of pass and months that one call is told, sets of them as bits; the next call uses its rows again. */
    private static final class Voyages {
        private final int[] pass = new int[MOST_PAIRS];
        private final int[] months = new int[MOST_PAIRS];
        private int pairs = 0;

        void load(Sheet row, int i, int n) {
            pairs = Math.min(n, MOST_PAIRS);
            for (int k = 0; k < pairs; k++) {
                pass[k] = row.at(i + 2 * k);
                months[k] = row.at(i + 2 * k + 1);
            }
        }

        int howMany() {
            return pairs;
        }

        int refusal(Coast shore) {
            for (int k = 0; k < pairs; k++) {
                if (!shore.hasPass(pass[k])) {
                    return UNKNOWN;
                }
                if (!isMonths(months[k])) {
                    return OUTSIDE;
                }
            }
            return NOT_REFUSED;
        }

        int firstWrongPair() {
            for (int k = 1; k < pairs; k++) {
                if (months[k] < months[k - 1]) {
                    return k;
                }
            }
            return NONE;
        }

        int takenBy(Coast shore, int held) {
            int set = 0;
            for (int k = 0; k < pairs; k++) {
                set |= bitIf((shore.fitting(pass[k], months[k]) & held) == 0, k);
            }
            return set;
        }

        int firstOf(int set) {
            for (int k = 0; k < pairs; k++) {
                if ((set & 1 << k) != 0) {
                    return k;
                }
            }
            return NONE;
        }

        int goodOnes(Coast shore) {
            int set = 0;
            for (int k = 0; k < pairs; k++) {
                set |= bitIf(shore.doFit(pass[k], pass[k], months[k]), k);
            }
            return set;
        }

        int onesOf(int p) {
            int set = 0;
            for (int k = 0; k < pairs; k++) {
                set |= bitIf(pass[k] == p, k);
            }
            return set;
        }
    }

    /** What fitted what, and what did not. */
    private static final class Readings {
        private final int[] upper = new int[MOST_READINGS];
        private final int[] lower = new int[MOST_READINGS];
        private final int[] months = new int[MOST_READINGS];
        private final boolean[] did = new boolean[MOST_READINGS];
        private int count = 0;

        int howMany() {
            return count;
        }

        void append(int p, int q, int m, boolean didFit) {
            if (count >= MOST_READINGS) {
                return;
            }
            upper[count] = p;
            lower[count] = q;
            months[count] = m;
            did[count] = didFit;
            count++;
        }

        void dropLast(int k) {
            if (k >= 0 && k <= count) {
                count -= k;
            }
        }

        boolean areSo(Coast shore) {
            for (int k = 0; k < count; k++) {
                if (shore.doFit(upper[k], lower[k], months[k]) != did[k]) {
                    return false;
                }
            }
            return true;
        }
    }
}
