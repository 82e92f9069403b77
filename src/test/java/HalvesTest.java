/** Promises 7 to 12: halves laid together. */
public final class HalvesTest {
    private static final int[] NO_MONTHS = {-1, 10, Integer.MIN_VALUE, Integer.MAX_VALUE};

    private HalvesTest() { }

    public static void main(String[] args) {
        off();
        fits();
        match();
        last();
        alike();
        most();
        Due.end();
    }

    private static void off() {
        WavePass x = Due.coastOf("e3;p505;l059;d900");
        Due.makeFault(x);
        Due.due("a PASS with itself", x.off(0, 0, 0), 0);
        Due.due("a PASS with itself, worn by 2", x.off(0, 0, 2), 4);
        Due.due("a PASS with itself, worn to nothing", x.off(0, 0, 9), 10);
        Due.due("upper 0, lower 1: 505 with 048", x.off(0, 1, 0), 5 + 4 + 3);
        Due.due("upper 1, lower 0: 059 with 505", x.off(1, 0, 0), 5 + 5 + 4);
        Due.due("upper 1, lower 2 behind 3: 059 with 300", x.off(1, 2, 3), 3 + 5 + 9);
        Due.due("upper 2, lower 1 behind 9: 900 with 000", x.off(2, 1, 9), 9);
        for (int m : NO_MONTHS) {
            Due.due("off behind no months", x.off(0, 1, m), -2);
            Due.due("off of no upper half", x.off(3, 0, m), -1);
            Due.due("off of no lower half", x.off(0, 3, m), -1);
            Due.due("off of wild numbers", x.off(m, m, m), -1);
        }
        Due.due("off of upper -1", x.off(-1, 0, 0), -1);
        Due.due("off of lower -1", x.off(0, -1, 0), -1);
        Due.due("off names no FAULTS", x.fault(), Due.SIZE);
    }

    private static void fits() {
        WavePass x = Due.coastOf("e3;p333;p343;p336;p337;l333;d000");
        Due.makeFault(x);
        Due.due("OFF by 0, 1, 3, 4, 0", x.fits(0, 0), 1 | 2 | 4 | 16);
        Due.due("a LENT lower half: 222", x.fits(4, 0), 1 | 16);
        Due.due("behind 1: 222", x.fits(0, 1), 1 | 16);
        Due.due("behind 2: 111", x.fits(0, 2), 32);
        Due.due("behind 9: 000", x.fits(0, 9), 32);
        Due.due("slack", x.slack(0), 3);
        Due.due("none fits", x.fits(4, 0), 0);
        for (int m : NO_MONTHS) {
            Due.due("fits behind no months", x.fits(0, m), -2);
            Due.due("fits of no pass", x.fits(6, m), -1);
            Due.due("fits of no pass", x.fits(m, 0), -1);
        }
        Due.due("fits names no FAULTS", x.fault(), Due.SIZE);
        Due.due("fits without a coast", new WavePass().fits(0, 0), -1);
    }

    private static void match() {
        WavePass x = Due.coastOf("e3;p335;p334;p433;p333;l444");
        Due.makeFault(x);
        Due.due("its own", x.match(0, 0), 0);
        Due.due("333 behind 0", x.match(4, 0), 3);
        Due.due("333 behind 0", x.match(3, 0), 3);
        Due.due("of several the least: 222 behind 1", x.match(3, 1), 3);
        Due.due("trim", x.trim(3, 0, 9), 3);
        Due.due("of several the least: 333", x.match(4, 0), 1);
        Due.due("slack", x.slack(0), 3);
        Due.due("NONE", x.match(4, 0), -9);
        Due.due("OFF by just SLACK", x.match(2, 0), 2);
        for (int m : NO_MONTHS) {
            Due.due("match behind no months", x.match(0, m), -2);
            Due.due("match of no pass", x.match(5, m), -1);
            Due.due("match of no pass", x.match(m, 0), -1);
        }
        Due.due("match names no FAULTS", x.fault(), Due.SIZE);
        WavePass y = Due.coastOf("e9;p000;p003;p000");
        Due.due("the least of two equal ones", y.match(2, 0), 0);
        Due.due("worn to nothing", Due.coastOf("e2;p333;p444").match(0, 9), -9);
    }

    private static void last() {
        WavePass x = Due.coastOf("e9;p999;l999;d999;p009;p000;l123");
        Due.makeFault(x);
        int[] all = {3, 2, 1, 9, 9, 9};
        for (int p = 0; p < 6; p++) {
            Due.due("last(" + p + ")", x.last(p), all[p]);
        }
        Due.due("slack", x.slack(2), 9);
        Due.due("LENT is not GOOD at first", x.last(1), -9);
        Due.due("PASS is GOOD at first only", x.last(0), 0);
        Due.due("DRAWN is GOOD at first only", x.last(2), 0);
        for (int p : new int[] {-1, 6, Integer.MIN_VALUE, Integer.MAX_VALUE}) {
            Due.due("last of no pass", x.last(p), -1);
        }
        Due.due("last names no FAULTS", x.fault(), Due.SIZE);
    }

    private static void alike() {
        WavePass x = Due.coastOf("e3;p333;l333;d303;p300;p666;d346");
        Due.makeFault(x);
        int[] all = {2 | 4, 1 | 4, 1 | 2 | 8, 4, 0, 0};
        for (int p = 0; p < 6; p++) {
            Due.due("alike(" + p + ")", x.alike(p), all[p]);
        }
        Due.due("slack", x.slack(4), 3);
        Due.due("alike by 4", x.alike(0), 2 | 4 | 32);
        Due.due("slack", x.slack(0), 4);
        Due.due("alike by 0", x.alike(0), 2);
        for (int p : new int[] {-1, 6, Integer.MIN_VALUE, Integer.MAX_VALUE}) {
            Due.due("alike of no pass", x.alike(p), -1);
        }
        Due.due("alike names no FAULTS", x.fault(), Due.SIZE);
    }

    private static void most() {
        Due.due("most without a coast", new WavePass().most(), -3);
        Due.due("a row of alike ones", Due.coastOf("e1;p000;p001;p002;p003;p004;p005").most(), 1 | 4 | 16);
        Due.due("a middle one left out", Due.coastOf("e1;p001;p000;p002").most(), 2 | 4);
        Due.due("all alike", Due.coastOf("e9;p001;p000;p002").most(), 1);
        Due.due("none alike", Due.coastOf("e0;p001;p000;p002;l100;d200;d300").most(), 63);
        Due.due("of several the least", Due.coastOf("e1;p005;p000;p001;p006").most(), 1 | 2);
        Due.due("two of the same", Due.coastOf("e0;p005;d005").most(), 1);
        WavePass x = Due.coastOf("e0;p001;p000;p002");
        Due.makeFault(x);
        Due.due("most", x.most(), 7);
        Due.due("letGo", x.letGo(7, 0), 7);
        Due.due("most behind another call", x.most(), 7);
        Due.due("most names no FAULTS", x.fault(), Due.SIZE);
    }
}
