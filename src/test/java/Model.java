import java.math.BigInteger;
import java.util.ArrayList;
import java.util.List;
import java.util.regex.Matcher;
import java.util.regex.Pattern;

/**
 * The document told once more in another manner, as a check on WavePass: passes are objects whose kinds
 * inherit, rows are arrays of Java's own bytes, shorts and ints, and the machine itself tells the faults.
 */
final class Model {
    private static final Pattern TEXT = Pattern.compile("e[0-9](;[pld][0-9][0-9][0-9]){2,6}");
    private static final long LOST = Long.MIN_VALUE;

    private final Object[] rows = new Object[4];
    private List<Pass> passes = new ArrayList<>();
    private List<int[]> readings = new ArrayList<>();
    private int slack = 0;
    private int trace = 0;
    private int fault = 0;

    private interface Sealed {
        int number();

        Model home();

        default int sealed() {
            home().leave(4);
            return number();
        }
    }

    private static class Pass implements Sealed {
        final Model home;
        final int number;
        final int[] heights;

        Pass(Model home, int number, int[] heights) {
            this.home = home;
            this.number = number;
            this.heights = heights;
        }

        @Override public int number() {
            return number;
        }

        @Override public Model home() {
            return home;
        }

        int wear(int m) {
            return m;
        }

        int told() {
            home.leave(1);
            return heights[0] + heights[1] + heights[2];
        }
    }

    private static class Lent extends Pass {
        Lent(Model home, int number, int[] heights) {
            super(home, number, heights);
        }

        @Override int wear(int m) {
            return super.wear(m) + 1;
        }

        @Override int told() {
            home.leave(2);
            return super.told() + 100;
        }

        int toldByPass() {
            return super.told();
        }
    }

    private static final class Drawn extends Lent {
        Drawn(Model home, int number, int[] heights) {
            super(home, number, heights);
        }

        @Override int wear(int m) {
            return m + m;
        }

        @Override int told() {
            home.leave(3);
            int first = super.told();
            return first + toldByPass();
        }

        @Override public int sealed() {
            home.leave(5);
            return 70;
        }
    }

    private Pass make(int number, int kind, int[] heights) {
        return kind == 0 ? new Pass(this, number, heights)
            : kind == 1 ? new Lent(this, number, heights) : new Drawn(this, number, heights);
    }

    private static int kindOf(Pass p) {
        return p instanceof Drawn ? 2 : p instanceof Lent ? 1 : 0;
    }

    private void leave(int body) {
        trace = trace * 31 + body;
    }

    private boolean isPass(int p) {
        return 0 <= p && p < passes.size();
    }

    private static boolean out(int v, int greatest) {
        return v < 0 || v > greatest;
    }

    // ---- faults, told by the machine

    private interface Act {
        long run();
    }

    private long byMachine(Act act, boolean longs) {
        fault = 0;
        try {
            return act.run();
        } catch (NullPointerException e) {
            fault = 1;
        } catch (ClassCastException | ArrayStoreException e) {
            fault = 2;
        } catch (IndexOutOfBoundsException e) {
            fault = 3;
        } catch (NegativeArraySizeException e) {
            fault = 4;
        }
        return longs ? LOST : -10 - fault;
    }

    private int[] taken(int k, int lane, int i, int n) {
        Object row = rows[k];
        if (lane == 0) {
            byte[] cast = (byte[]) row;
            byte[] to = new byte[cast.length - cast.length + n];
            System.arraycopy(cast, i, to, 0, n);
            return widened(to);
        }
        if (lane == 1) {
            short[] cast = (short[]) row;
            short[] to = new short[cast.length - cast.length + n];
            System.arraycopy(cast, i, to, 0, n);
            return widened(to);
        }
        int[] cast = (int[]) row;
        int[] to = new int[cast.length - cast.length + n];
        System.arraycopy(cast, i, to, 0, n);
        return to;
    }

    private static int[] widened(Object row) {
        int[] all = new int[java.lang.reflect.Array.getLength(row)];
        for (int i = 0; i < all.length; i++) {
            all[i] = java.lang.reflect.Array.getInt(row, i);
        }
        return all;
    }

    // ---- the calls

    long coast(int sheet, int lane, int i, int n) {
        fault = 0;
        if (out(sheet, 3)) {
            return -1;
        }
        if (out(lane, 2)) {
            return -2;
        }
        // No text is as long as this, and no such array need be made to know that its cells are not there.
        int asked = Math.min(n, 1000);
        return byMachine(() -> coastBy(taken(sheet, lane, i, asked)), false);
    }

    private long coastBy(int[] codes) {
        StringBuilder text = new StringBuilder();
        for (int code : codes) {
            text.append(code > 0 && code < 128 ? (char) code : '?');
        }
        for (int end = 1; end <= text.length(); end++) {
            Matcher m = TEXT.matcher(text.substring(0, end));
            if (!m.matches() && !m.hitEnd()) {
                return -100 - (end - 1);
            }
        }
        if (!TEXT.matcher(text).matches()) {
            return -100 - text.length();
        }
        slack = text.charAt(1) - '0';
        readings = new ArrayList<>();
        passes = new ArrayList<>();
        for (String one : text.substring(3).split(";")) {
            int[] heights = {one.charAt(1) - '0', one.charAt(2) - '0', one.charAt(3) - '0'};
            passes.add(make(passes.size(), "pld".indexOf(one.charAt(0)), heights));
        }
        return passes.size();
    }

    long ofPass(int p, int what) {
        if (!isPass(p)) {
            return -1;
        }
        if (out(what, 3)) {
            return -2;
        }
        return what == 0 ? kindOf(passes.get(p)) : passes.get(p).heights[what - 1];
    }

    long trim(int p, int place, int v) {
        if (!isPass(p)) {
            return -1;
        }
        if (out(place, 2) || out(v, 9)) {
            return -2;
        }
        int was = passes.get(p).heights[place];
        passes.get(p).heights[place] = v;
        return was;
    }

    long slack(int v) {
        if (out(v, 9)) {
            return -2;
        }
        if (passes.isEmpty()) {
            return -3;
        }
        int was = slack;
        slack = v;
        return was;
    }

    private int[] lower(int p, int m) {
        int[] worn = passes.get(p).heights.clone();
        for (int months = 0; months < passes.get(p).wear(m); months++) {
            for (int place = 0; place < 3; place++) {
                worn[place] -= worn[place] > 0 ? 1 : 0;
            }
        }
        return worn;
    }

    long worn(int p, int place, int m) {
        if (!isPass(p)) {
            return -1;
        }
        return out(place, 2) || out(m, 9) ? -2 : lower(p, m)[place];
    }

    private static int differ(int[] a, int[] b) {
        int sum = 0;
        for (int place = 0; place < 3; place++) {
            sum += a[place] > b[place] ? a[place] - b[place] : b[place] - a[place];
        }
        return sum;
    }

    private int offBy(int p, int q, int m) {
        return differ(passes.get(p).heights, lower(q, m));
    }

    private boolean fit(int p, int q, int m) {
        return offBy(p, q, m) <= slack;
    }

    long off(int p, int q, int m) {
        if (!isPass(p) || !isPass(q)) {
            return -1;
        }
        return out(m, 9) ? -2 : offBy(p, q, m);
    }

    long fits(int q, int m) {
        if (!isPass(q)) {
            return -1;
        }
        if (out(m, 9)) {
            return -2;
        }
        long set = 0;
        for (Pass p : passes) {
            set += fit(p.number, q, m) ? Math.pow(2, p.number) : 0;
        }
        return set;
    }

    long match(int q, int m) {
        if (!isPass(q)) {
            return -1;
        }
        if (out(m, 9)) {
            return -2;
        }
        return passes.stream().map(p -> p.number).filter(p -> fit(p, q, m))
            .min((a, b) -> offBy(a, q, m) != offBy(b, q, m) ? offBy(a, q, m) - offBy(b, q, m) : a - b).orElse(-9);
    }

    long last(int p) {
        if (!isPass(p)) {
            return -1;
        }
        long found = -9;
        for (int m = 0; m <= 9; m++) {
            found = fit(p, p, m) ? m : found;
        }
        return found;
    }

    private boolean like(int p, int q) {
        return differ(passes.get(p).heights, passes.get(q).heights) <= slack;
    }

    long alike(int p) {
        if (!isPass(p)) {
            return -1;
        }
        long set = 0;
        for (int q = 0; q < passes.size(); q++) {
            set += q != p && like(p, q) ? 1L << q : 0;
        }
        return set;
    }

    private static List<Integer> members(int set) {
        List<Integer> all = new ArrayList<>();
        for (int k = 0; k < 31; k++) {
            if ((set >> k) % 2 == 1) {
                all.add(k);
            }
        }
        return all;
    }

    long most() {
        if (passes.isEmpty()) {
            return -3;
        }
        // From the greatest set down: of as many, the later one is the lesser.
        int best = 0;
        for (int set = (1 << passes.size()) - 1; set >= 0; set--) {
            List<Integer> in = members(set);
            boolean two = in.stream().anyMatch(a -> in.stream().anyMatch(b -> a < b && like(a, b)));
            best = !two && in.size() >= members(best).size() ? set : best;
        }
        return best;
    }

    private int freed(int set, int m) {
        int all = 0;
        for (int p : members(set)) {
            for (int q = 0; q < passes.size(); q++) {
                all |= fit(p, q, m) ? 1 << q : 0;
            }
        }
        return all;
    }

    long letGo(int set, int m) {
        if (passes.isEmpty()) {
            return -3;
        }
        return out(set, (1 << passes.size()) - 1) || out(m, 9) ? -2 : freed(set, m);
    }

    long fewest(int m) {
        if (out(m, 9)) {
            return -2;
        }
        if (passes.isEmpty()) {
            return -3;
        }
        int all = (1 << passes.size()) - 1;
        for (int size = 0; size <= passes.size(); size++) {
            for (int set = 0; set <= all; set++) {
                if (members(set).size() == size && freed(set, m) == all) {
                    return set;
                }
            }
        }
        return -9;
    }

    long voyages(int set, int sheet, int lane, int i, int n, int what) {
        fault = 0;
        if (out(sheet, 3)) {
            return -1;
        }
        if (out(lane, 2) || out(n, 20) || out(what, 15) || what > 3 && what < 10) {
            return -2;
        }
        return byMachine(() -> voyagesBy(set, taken(sheet, lane, i, 2 * n), what), false);
    }

    private long voyagesBy(int set, int[] cells, int what) {
        if (passes.isEmpty()) {
            return -3;
        }
        if (out(set, (1 << passes.size()) - 1)) {
            return -2;
        }
        for (int c = 0; c < cells.length; c++) {
            if (c % 2 == 0 && !isPass(cells[c])) {
                return -1;
            }
            if (c % 2 == 1 && out(cells[c], 9)) {
                return -2;
            }
        }
        for (int c = 3; c < cells.length; c += 2) {
            if (cells[c] < cells[c - 2]) {
                return what == 1 ? c / 2 : -100 - c / 2;
            }
        }
        return what == 1 ? -9 : meetings(set, cells, what);
    }

    private long meetings(int set, int[] cells, int what) {
        int free = 0;
        int first = -9;
        int good = 0;
        int[] often = new int[6];
        for (int pair = 0; pair < cells.length / 2; pair++) {
            int p = cells[2 * pair];
            int m = cells[2 * pair + 1];
            if ((freed(set, m) & 1 << p) != 0) {
                free++;
                continue;
            }
            first = first == -9 ? pair : first;
            good += fit(p, p, m) ? 1 : 0;
            often[p]++;
        }
        if (what >= 10) {
            return isPass(what - 10) ? often[what - 10] : -9;
        }
        return what == 0 ? free : what == 2 ? first : good;
    }

    long reading(int p, int q, int m, boolean did) {
        if (!isPass(p) || !isPass(q)) {
            return -1;
        }
        if (out(m, 9)) {
            return -2;
        }
        if (readings.size() == 8) {
            return -4;
        }
        readings.add(new int[] {p, q, m, did ? 1 : 0});
        return readings.size() - 1;
    }

    long back(int k) {
        if (out(k, readings.size())) {
            return -2;
        }
        readings = new ArrayList<>(readings.subList(0, readings.size() - k));
        return readings.size();
    }

    private boolean allSo() {
        return readings.stream().allMatch(r -> fit(r[0], r[1], r[2]) == (r[3] == 1));
    }

    long edges(int p, int place) {
        if (!isPass(p)) {
            return -1;
        }
        if (out(place, 2)) {
            return -2;
        }
        List<Pass> kept = passes;
        long set = 0;
        for (int v = 0; v <= 9; v++) {
            int[] heights = kept.get(p).heights.clone();
            heights[place] = v;
            passes = new ArrayList<>(kept);
            passes.set(p, make(p, kindOf(kept.get(p)), heights));
            set += allSo() ? 1L << v : 0;
        }
        passes = kept;
        return set;
    }

    long kinds(int p) {
        if (!isPass(p)) {
            return -1;
        }
        List<Pass> kept = passes;
        long set = 0;
        for (int kind = 0; kind <= 2; kind++) {
            passes = new ArrayList<>(kept);
            passes.set(p, make(p, kind, kept.get(p).heights));
            set += allSo() ? 1L << kind : 0;
        }
        passes = kept;
        return set;
    }

    long slacks() {
        if (passes.isEmpty()) {
            return -3;
        }
        int kept = slack;
        long set = 0;
        for (slack = 0; slack <= 9; slack++) {
            set += allSo() ? 1L << slack : 0;
        }
        slack = kept;
        return set;
    }

    long odds(int q, int m, int which) {
        if (!isPass(q) || out(m, 9) || out(which, 1)) {
            return LOST;
        }
        long sets = 1L << passes.size();
        long free = 0;
        for (int set = 0; set < sets; set++) {
            free += freed(set, m) >> q & 1;
        }
        long common = BigInteger.valueOf(free).gcd(BigInteger.valueOf(sets)).longValue();
        return (which == 0 ? free : sets) / common;
    }

    long sheet(int k, int lane, int n) {
        fault = 0;
        if (out(k, 3)) {
            return -1;
        }
        if (out(lane, 2) || n > 60) {
            return -2;
        }
        return byMachine(() -> {
            rows[k] = lane == 0 ? new byte[n] : lane == 1 ? new short[n] : new int[n];
            return 1;
        }, false);
    }

    long lose(int k) {
        if (out(k, 3)) {
            return -1;
        }
        int had = rows[k] == null ? 0 : 1;
        rows[k] = null;
        return had;
    }

    long put(int k, int i, int v) {
        fault = 0;
        if (out(k, 3)) {
            return -1;
        }
        return byMachine(() -> {
            if (rows[k] instanceof byte[] b) {
                b[i] = (byte) v;
            } else if (rows[k] instanceof short[] s) {
                s[i] = (short) v;
            } else {
                ((int[]) rows[k])[i] = v;
            }
            return 1;
        }, false);
    }

    long cell(int k, int i, int lane) {
        fault = 0;
        if (out(k, 3) || out(lane, 2)) {
            return LOST;
        }
        return byMachine(() -> lane == 0 ? ((byte[]) rows[k])[i]
            : lane == 1 ? ((short[]) rows[k])[i] : ((int[]) rows[k])[i], true);
    }

    @SuppressWarnings("SuspiciousSystemArraycopy")
    long copy(int k, int i, int other, int j, int n) {
        fault = 0;
        if (out(k, 3) || out(other, 3)) {
            return -1;
        }
        return byMachine(() -> {
            System.arraycopy(rows[k], i, rows[other], j, n);
            return n;
        }, false);
    }

    long tell(int p) {
        return isPass(p) ? passes.get(p).told() : -1;
    }

    long seal(int p) {
        return isPass(p) ? passes.get(p).sealed() : -1;
    }

    long as(int p, int kind) {
        fault = 0;
        if (!isPass(p)) {
            return -1;
        }
        if (out(kind, 2)) {
            return -2;
        }
        return byMachine(() -> {
            Pass one = passes.get(p);
            Object as = kind == 0 ? one : kind == 1 ? (Lent) one : (Drawn) one;
            return as == null ? 0 : 1;
        }, false);
    }

    long trace() {
        return trace;
    }

    long fault() {
        return fault;
    }

    long many(int what) {
        return what == 0 ? passes.size() : what == 1 ? slack : what == 2 ? readings.size() : -2;
    }
}
