import java.util.ArrayList;
import java.util.Arrays;
import java.util.List;

/**
 * The line of a call in the document: by which arguments it is refused or comes to a fault, in which order, and what
 * it takes. Whatever is asked here is asked of a new object, which is looked at behind the call.
 */
final class Line {
    interface Call {
        long on(WavePass x, int[] a);
    }

    interface Maker {
        WavePass make();
    }

    /** Arguments that are not as told; without an argument it is the object that is so, whatever the arguments. */
    private record Way(int code, int argument, int[] values) { }

    private static final int NO_ARGUMENT = -1;

    private final String name;
    private final Maker maker;
    private final Call call;
    private final int[] fine;
    private final List<Way> ways = new ArrayList<>();
    private boolean namesFaults = false;
    private boolean answersLong = false;

    Line(String name, Maker maker, Call call, int... fine) {
        this.name = name;
        this.maker = maker;
        this.call = call;
        this.fine = fine;
    }

    Line namingFaults() {
        namesFaults = true;
        return this;
    }

    Line answeringLong() {
        answersLong = true;
        return this;
    }

    /** Each of these values of an argument is answered by the code, unless a way told ahead of this one stands. */
    Line way(int code, int argument, int... values) {
        ways.add(new Way(code, argument, values));
        return this;
    }

    /** The object itself is such that the code is answered, unless a way told ahead of this one stands. */
    Line always(int code) {
        ways.add(new Way(code, NO_ARGUMENT, new int[0]));
        return this;
    }

    /** All ways alone and in pairs, by all their values; then all that can stand at once, by their first ones. */
    void check() {
        for (int set = 0; set < 1 << ways.size(); set++) {
            List<Way> some = new ArrayList<>();
            for (int w = 0; w < ways.size(); w++) {
                if ((set >> w & 1) == 1) {
                    some.add(ways.get(w));
                }
            }
            if (!some.isEmpty() && canStand(some)) {
                together(some, 0, fine.clone());
            }
        }
    }

    private boolean canStand(List<Way> some) {
        List<Integer> used = new ArrayList<>();
        for (Way way : some) {
            if (way.argument != NO_ARGUMENT && used.contains(way.argument)) {
                return false;
            }
            used.add(way.argument);
        }
        // What the object is like stands always.
        return ways.stream().allMatch(way -> way.argument != NO_ARGUMENT || some.contains(way));
    }

    private void together(List<Way> some, int at, int[] a) {
        if (at == some.size()) {
            refused(some.get(0).code, a);
            return;
        }
        Way way = some.get(at);
        if (way.argument == NO_ARGUMENT) {
            together(some, at + 1, a);
            return;
        }
        int[] values = some.size() <= 2 ? way.values : Arrays.copyOf(way.values, 1);
        for (int v : values) {
            int[] next = a.clone();
            next[way.argument] = v;
            together(some, at + 1, next);
        }
    }

    private void refused(int code, int[] a) {
        int fault = code <= -11 && code >= -14 ? -10 - code : 0;
        asked(answersLong ? Due.LOST : code, fault, maker, a);
    }

    /** The call is answered, and changes nothing (but fault(), where it names FAULTS). */
    Line taken(long due, int... a) {
        asked(due, 0, maker, a);
        return this;
    }

    /** The call is answered, and behind it all is as in an object of another maker. */
    Line makes(long due, Maker like, int... a) {
        asked(due, 0, like, a);
        return this;
    }

    private void asked(long due, int fault, Maker like, int[] a) {
        WavePass x = maker.make();
        int left = leaveFault(x, fault);
        String told = name + Arrays.toString(a);
        Due.due(told, call.on(x, a), due);
        Due.due("fault() behind " + told, x.fault(), namesFaults ? fault : left);
        Due.dueSame("what is seen behind " + told, Harbour.look(x), Harbour.look(like.make()));
    }

    /** Leaves a fault() other than the one that is due, so that it is seen what the call does to it. */
    private static int leaveFault(WavePass x, int due) {
        if (due != Due.SIZE) {
            Due.due("sheet of a length below 0", x.sheet(0, 0, -1), -14);
            return Due.SIZE;
        }
        Due.due("put to a cell -1", x.put(0, -1, 0) <= -11 ? 1 : 0, 1);
        return x.fault();
    }
}
