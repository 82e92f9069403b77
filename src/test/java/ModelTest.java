import java.util.Random;

/** Promises 1 to 32 by chance: long runs of calls, each answer held against that of Model. */
public final class ModelTest {
    // The last calls of a run come many at once, and no object is good for more than 512.
    private static final int RUNS = 3500, CALLS = 440, CALL_KINDS = 31;
    private static final int[] WILD = {Integer.MIN_VALUE, -61, -2, -1, 7, 10, 16, 21, 61, 64, Integer.MAX_VALUE};

    private final Random random;
    private final WavePass x = new WavePass();
    private final Model model = new Model();
    private final String run;
    private int calls = 0;

    private ModelTest(int seed) {
        random = new Random(seed);
        run = "run " + seed + ": ";
    }

    public static void main(String[] args) {
        for (int seed = 0; seed < RUNS; seed++) {
            new ModelTest(seed).go();
        }
        Due.end();
    }

    private void go() {
        while (calls < CALLS) {
            int chance = random.nextInt(100);
            if (chance < 2) {
                layText();
            } else if (chance < 5) {
                layPairs();
            } else {
                call(random.nextInt(CALL_KINDS));
            }
        }
    }

    private void due(String call, long got, long want) {
        calls++;
        Due.due(run + call, got, want);
    }

    /** Mostly a number below the bound, now and then one that is not. */
    private int some(int bound) {
        return random.nextInt(25) == 0 ? WILD[random.nextInt(WILD.length)] : random.nextInt(bound);
    }

    private int pass() {
        return some(random.nextInt(4) == 0 ? 6 : 2 + random.nextInt(3));
    }

    private int months() {
        return some(random.nextBoolean() ? 3 : 10);
    }

    private void layText() {
        StringBuilder text = new StringBuilder("e").append(random.nextInt(10));
        int passes = random.nextInt(8) == 0 ? random.nextInt(9) : 2 + random.nextInt(5);
        int base = random.nextInt(10);
        int spread = 1 + random.nextInt(10);
        for (int p = 0; p < passes; p++) {
            text.append(';').append("pld".charAt(random.nextInt(3)));
            for (int place = 0; place < 3; place++) {
                text.append((base + random.nextInt(spread)) % 10);
            }
        }
        if (random.nextInt(6) == 0) {
            text.setCharAt(random.nextInt(text.length()), "eppld;059/:x".charAt(random.nextInt(12)));
        }
        if (random.nextInt(6) == 0) {
            text.setLength(random.nextInt(text.length() + 1));
        }
        int ahead = random.nextInt(4);
        int k = random.nextInt(4);
        int lane = random.nextInt(3);
        int length = Math.min(60, ahead + text.length() + random.nextInt(3));
        lay(k, lane, length, ahead, text.chars().toArray());
        due("coast", x.coast(k, lane, ahead, text.length()), model.coast(k, lane, ahead, text.length()));
    }

    private void lay(int k, int lane, int length, int ahead, int[] numbers) {
        due("sheet", x.sheet(k, lane, length), model.sheet(k, lane, length));
        for (int i = 0; i < numbers.length; i++) {
            due("put", x.put(k, ahead + i, numbers[i]), model.put(k, ahead + i, numbers[i]));
        }
    }

    private void layPairs() {
        int n = random.nextInt(9);
        int[] cells = new int[2 * n];
        int m = 0;
        for (int pair = 0; pair < n; pair++) {
            cells[2 * pair] = random.nextInt(random.nextInt(30) == 0 ? 7 : Math.max(1, (int) model.many(0)));
            m = random.nextInt(20) == 0 ? random.nextInt(11) : Math.min(9, m + random.nextInt(2));
            cells[2 * pair + 1] = m;
        }
        int k = random.nextInt(4);
        int lane = random.nextInt(3);
        int ahead = random.nextInt(3);
        lay(k, lane, ahead + 2 * n + random.nextInt(2), ahead, cells);
        for (int t = 0; t < 8; t++) {
            int set = random.nextInt(1 << Math.max(1, (int) model.many(0)));
            int what = random.nextInt(3) == 0 ? 10 + random.nextInt(6) : random.nextInt(4);
            due("voyages", x.voyages(set, k, lane, ahead, n, what), model.voyages(set, k, lane, ahead, n, what));
        }
    }

    private void call(int kind) {
        if (kind < 14) {
            callAhead(kind);
        } else {
            callBehind(kind);
        }
        due("fault behind call " + kind, x.fault(), model.fault());
    }

    private void callAhead(int kind) {
        int p = pass();
        int q = pass();
        int m = months();
        int place = some(3);
        int v = some(10);
        int set = some(random.nextBoolean() ? 4 : 64);
        int k = some(4);
        int lane = some(3);
        int i = some(random.nextBoolean() ? 3 : 62);
        int n = some(random.nextBoolean() ? 4 : 33);
        int what = some(random.nextBoolean() ? 4 : 17);
        switch (kind) {
            case 0 -> due("coast", x.coast(k, lane, i, n), model.coast(k, lane, i, n));
            case 1 -> due("ofPass", x.ofPass(p, v % 5), model.ofPass(p, v % 5));
            case 2 -> due("trim", x.trim(p, place, v), model.trim(p, place, v));
            case 3 -> due("slack", x.slack(v), model.slack(v));
            case 4 -> due("worn", x.worn(p, place, m), model.worn(p, place, m));
            case 5 -> due("off", x.off(p, q, m), model.off(p, q, m));
            case 6 -> due("fits", x.fits(q, m), model.fits(q, m));
            case 7 -> due("match", x.match(q, m), model.match(q, m));
            case 8 -> due("last", x.last(p), model.last(p));
            case 9 -> due("alike", x.alike(p), model.alike(p));
            case 10 -> due("most", x.most(), model.most());
            case 11 -> due("letGo", x.letGo(set, m), model.letGo(set, m));
            case 12 -> due("fewest", x.fewest(m), model.fewest(m));
            default -> due("voyages", x.voyages(set, k, lane, i, n, what), model.voyages(set, k, lane, i, n, what));
        }
    }

    private void callBehind(int kind) {
        int p = pass();
        int q = pass();
        int m = months();
        int k = some(4);
        int other = some(4);
        int lane = some(3);
        int i = some(random.nextBoolean() ? 3 : 62);
        int j = some(random.nextBoolean() ? 3 : 62);
        int n = some(random.nextBoolean() ? 4 : 62);
        int v = random.nextBoolean() ? random.nextInt() : some(10);
        switch (kind) {
            case 14 -> readingAsItIs(p, q, m);
            case 15 -> due("back", x.back(i % 9), model.back(i % 9));
            case 16 -> due("edges", x.edges(p, lane), model.edges(p, lane));
            case 17 -> due("kinds", x.kinds(p), model.kinds(p));
            case 18 -> due("slacks", x.slacks(), model.slacks());
            case 19 -> due("odds", x.odds(q, m, other % 3), model.odds(q, m, other % 3));
            case 20 -> due("sheet", x.sheet(k, lane, n), model.sheet(k, lane, n));
            case 21 -> due("lose", x.lose(k), model.lose(k));
            case 22 -> due("put", x.put(k, i, v), model.put(k, i, v));
            case 23 -> due("cell", x.cell(k, i, lane), model.cell(k, i, lane));
            case 24 -> due("copy", x.copy(k, i, other, j, n), model.copy(k, i, other, j, n));
            case 25 -> due("tell", x.tell(p), model.tell(p));
            case 26 -> due("seal", x.seal(p), model.seal(p));
            case 27 -> due("as", x.as(p, lane), model.as(p, lane));
            case 28 -> due("trace", x.trace(), model.trace());
            case 29 -> copyAlike(i, j, n);
            default -> due("many", x.many(lane), model.many(lane));
        }
    }

    /** Mostly what is so, for by READINGS that are not so all sets are empty. */
    private void readingAsItIs(int p, int q, int m) {
        long by = model.off(p, q, m);
        boolean did = by >= 0 && by <= model.many(1) ^ random.nextInt(12) == 0;
        due("reading", x.reading(p, q, m, did), model.reading(p, q, m, did));
    }

    /** Two sheets of one lane, which chance alone seldom finds. */
    private void copyAlike(int i, int j, int n) {
        int k = random.nextInt(4);
        int other = random.nextInt(4);
        int lane = random.nextInt(3);
        if (calls % 3 == 0) {
            lay(k, lane, 9, 0, random.ints(9).toArray());
            due("sheet", x.sheet(other, lane, 6), model.sheet(other, lane, 6));
        }
        due("copy", x.copy(k, i, other, j, n), model.copy(k, i, other, j, n));
        for (int c = 0; c < 6; c++) {
            due("cell", x.cell(other, c, lane), model.cell(other, c, lane));
        }
    }
}
