/**
 * What the tests of bounds share: objects made by the same calls each time, and a look at all that is seen of one.
 * An object is made by some 95 calls at most and looked at by some 330 more, for 512 calls are all that it has.
 */
abstract class Harbour {
    /** What is answered for refusals and faults, told by numbers, not by the constants that are tested. */
    static final int UNKNOWN = -1, OUTSIDE = -2, STATE = -3, FULL = -4, NONE = -9;
    static final int NULL = -11, CAST = -12, INDEX = -13, SIZE = -14;

    static final int MIN = Integer.MIN_VALUE, MAX = Integer.MAX_VALUE;
    static final int[] NO_SHEET = {-1, 4, MIN, MAX};
    static final int[] NO_LANE = {-1, 3, MIN, MAX};
    static final int[] NO_PLACE = {-1, 3, MIN, MAX};
    static final int[] NO_DIGIT = {-1, 10, MIN, MAX};
    static final int[] NO_MONTHS = {-1, 10, MIN, MAX};
    /** No PASS, and no set of PASSES, where there are the five of full(). */
    static final int[] NO_PASS = {-1, 5, 6, MIN, MAX};
    static final int[] NO_SET = {-1, 32, 33, 64, MIN, MIN + 1, MAX};

    static final String TEXT = "e3;p123;l456";
    static final int PAIRS = 20;

    /** No COAST; sheet 0 has a text as bytes, sheet 1 one as shorts, sheet 2 voyages as ints, sheet 3 nothing. */
    static WavePass bare() {
        WavePass x = new WavePass();
        Due.layText(x, 0, 0, Due.FIVE);
        Due.layText(x, 1, 1, TEXT);
        int[] pairs = new int[2 * PAIRS];
        for (int k = 0; k < PAIRS; k++) {
            pairs[2 * k] = k % 5;
            pairs[2 * k + 1] = k / 2;
        }
        Due.layInts(x, 2, pairs);
        return x;
    }

    /** The sheets of bare(), five PASSES, three READINGS that are so, and a TRACE. */
    static WavePass full() {
        WavePass x = bare();
        Due.due("coast", x.coast(0, 0, 0, Due.FIVE.length()), 5);
        Due.due("reading", x.reading(0, 0, 1, true), 0);
        Due.due("reading", x.reading(3, 1, 1, true), 1);
        Due.due("reading", x.reading(2, 0, 0, false), 2);
        Due.due("tell", x.tell(2), 130);
        return x;
    }

    /** full(), with as many READINGS as there may be. */
    static WavePass crowded() {
        WavePass x = full();
        for (int k = 3; k < 8; k++) {
            Due.due("reading", x.reading(k % 5, k % 5, 9, false), k);
        }
        return x;
    }

    /** A COAST and nothing else: no row, no READINGS, no TRACE. */
    static WavePass coastBy(String text) {
        WavePass x = Due.coastOf(text);
        Due.due("lose", x.lose(0), 1);
        return x;
    }

    /** As few PASSES as there may be. */
    static WavePass two() {
        return coastBy("e0;p000;d999");
    }

    /** As many PASSES as there may be. */
    static WavePass six() {
        return coastBy("e9;p999;l000;d123;p321;l555;d909");
    }

    /** All that calls tell of an object but fault(); the READINGS are gone behind it. */
    static String look(WavePass x) {
        StringBuilder seen = new StringBuilder("trace ").append(x.trace());
        seen.append(" slack ").append(x.many(1)).append(" passes ").append(x.many(0));
        for (int p = 0; p < 7 && x.ofPass(p, 0) != UNKNOWN; p++) {
            seen.append(' ').append("pld".charAt(x.ofPass(p, 0)));
            for (int what = 1; what <= 3; what++) {
                seen.append(x.ofPass(p, what));
            }
        }
        for (int k = 0; k < 4; k++) {
            seen.append(" sheet ").append(k);
            lookAtSheet(x, k, seen);
        }
        lookAtReadings(x, seen);
        return seen.toString();
    }

    private static void lookAtSheet(WavePass x, int k, StringBuilder seen) {
        for (int lane = 0; lane < 3; lane++) {
            // A row without cells comes to INDEX, where one of another lane comes to CAST and nothing to NULL.
            if (x.cell(k, 0, lane) == Due.LOST && x.fault() != Due.INDEX) {
                continue;
            }
            seen.append(" lane ").append(lane);
            int i = 0;
            for (long v = x.cell(k, 0, lane); v != Due.LOST; v = x.cell(k, i, lane)) {
                seen.append(' ').append(v);
                i++;
            }
        }
    }

    /** READINGS are seen by what follows of them, as they are taken back one by one. */
    private static void lookAtReadings(WavePass x, StringBuilder seen) {
        int passes = x.many(0);
        for (int left = x.many(2); left >= 0; left--) {
            seen.append(" readings ").append(left).append(':').append(x.slacks());
            for (int p = 0; p < passes; p++) {
                seen.append(' ').append(x.kinds(p));
                for (int place = 0; place < 3; place++) {
                    seen.append('/').append(x.edges(p, place));
                }
            }
            x.back(1);
        }
    }
}
