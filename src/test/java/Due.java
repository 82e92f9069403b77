/** What all tests of the project use: answers that are due, and coasts told by a text. */
final class Due {
    static final long LOST = Long.MIN_VALUE;
    static final int NULL = 1, CAST = 2, INDEX = 3, SIZE = 4;
    /** Passes of all kinds; the heights differ so much that few are alike. */
    static final String FIVE = "e4;p369;l468;d951;p267;d380";

    private static int asked = 0;
    private static int wrong = 0;
    private static String sentence = "";

    private Due() { }

    /** The words of the document that the answers asked from here on hold; they stand ahead of each that is wrong. */
    static void says(String words) {
        sentence = "\"" + words + "\": ";
    }

    static void due(String call, long got, long want) {
        asked++;
        if (got != want) {
            wrong++;
            System.out.println(sentence + call + " answered " + got + ", due is " + want);
        }
    }

    static void dueSame(String what, String got, String want) {
        asked++;
        if (!got.equals(want)) {
            wrong++;
            System.out.println(sentence + what + " is " + got + ", due is " + want);
        }
    }

    /** A call that comes to a fault answers -10 less it, and fault() tells it. */
    static void dueFault(WavePass x, String call, long got, int fault) {
        due(call, got, -10 - fault);
        due("fault() behind " + call, x.fault(), fault);
    }

    /** A call that names faults, and is refused or answered, leaves fault() at 0. */
    static void dueNoFault(WavePass x, String call, long got, long want) {
        due(call, got, want);
        due("fault() behind " + call, x.fault(), 0);
    }

    /** Leaves fault() at 4, so that what a later call does to it can be seen. */
    static void makeFault(WavePass x) {
        due("sheet(3, 0, -1)", x.sheet(3, 0, -1), -14);
    }

    static void layText(WavePass x, int sheet, int lane, String text) {
        due("sheet for a text", x.sheet(sheet, lane, text.length()), 1);
        for (int i = 0; i < text.length(); i++) {
            due("put of a code", x.put(sheet, i, text.charAt(i)), 1);
        }
    }

    /** Lays numbers as ints. */
    static void layInts(WavePass x, int sheet, int... numbers) {
        due("sheet for numbers", x.sheet(sheet, 2, numbers.length), 1);
        for (int i = 0; i < numbers.length; i++) {
            due("put of a number", x.put(sheet, i, numbers[i]), 1);
        }
    }

    /** An object with a coast; sheet 0 keeps the text. */
    static WavePass coastOf(String text) {
        WavePass x = new WavePass();
        layText(x, 0, 0, text);
        due("coast by " + text, x.coast(0, 0, 0, text.length()), (text.length() - 2) / 5);
        return x;
    }

    static void end() {
        System.out.println(asked + " answers, " + wrong + " not as due");
        if (wrong != 0) {
            System.exit(1);
        }
    }
}
