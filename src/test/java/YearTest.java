/** Promises 8 to 11: light, damp, pass, year. */
final class YearTest {
    private YearTest() {
    }

    static void run() {
        lightAndDamp();
        passing();
        fading();
        fadingRow();
        darkening();
        lighterThenDarker();
        tiring();
        dampTires();
        yellowing();
        boundOfYellow();
        passFile();
    }

    private static void lightAndDamp() {
        Underpaint u = new Underpaint();
        Check.same("P8 before", u.light(0), 5);
        Check.same("P8 before", u.light(9), 0);
        Check.same("P8 before", u.light(4), 9);
        Check.same("P9 before", u.damp(0), 50);
        Check.same("P9 before", u.damp(99), 0);
        Check.same("P9 before", u.damp(30), 99);
        for (int bad : new int[] {-1, 10, Integer.MIN_VALUE, Integer.MAX_VALUE}) {
            Check.fails("P8 range", Easel.ARGUMENT, () -> u.light(bad));
        }
        for (int bad : new int[] {-1, 100, Integer.MIN_VALUE, Integer.MAX_VALUE}) {
            Check.fails("P9 range", Easel.ARGUMENT, () -> u.damp(bad));
        }
        Check.same("P8 kept", u.light(5), 4);
        Check.same("P9 kept", u.damp(50), 30);
        Check.same("P8 no act", u.acts(), 0);
    }

    private static void passing() {
        Underpaint u = new Underpaint();
        Check.same("P10 one", u.pass(1), 1601);
        Check.same("P11 year", u.year(), 1601);
        Check.same("P10 fifty", u.pass(50), 1651);
        for (int bad : new int[] {0, 51, -1, Integer.MIN_VALUE, Integer.MAX_VALUE}) {
            Check.fails("P10 range", Easel.ARGUMENT, () -> u.pass(bad));
        }
        Check.same("P11 kept", u.year(), 1651);
        Check.same("P10 acts", u.acts(), 2);
    }

    private static void fading() {
        Underpaint u = new Underpaint();
        u.stuff('p', 10, 50, 2, 3, 9, 9, 0, false);
        u.stuff('p', 98, 50, 2, 3, 9, 9, 0, false);
        u.stuff('p', 50, 50, 2, 3, 9, 1, 0, false);
        for (int i = 0; i < 3; i++) {
            Easel.layAt(u, i, 5, i, 0);
        }
        u.light(3);
        u.pass(1);
        Check.same("P10 27 tenths is 2", u.layerAt(0, 0, 0, 'c'), 12);
        Check.same("P10 at most 99", u.layerAt(1, 0, 0, 'c'), 99);
        Check.same("P10 3 tenths is none", u.layerAt(2, 0, 0, 'c'), 50);
        u.light(9);
        u.pass(3);
        Check.same("P10 81 tenths is 8", u.layerAt(0, 0, 0, 'c'), 36);
        Check.same("P10 no more", u.layerAt(1, 0, 0, 'c'), 99);
        u.light(0);
        u.pass(9);
        Check.same("P10 without light", u.layerAt(0, 0, 0, 'c'), 36);
    }

    /** Only the topmost layer that is neither varnish nor dirt fades. */
    private static void fadingRow() {
        Underpaint u = new Underpaint();
        u.stuff('p', 10, 50, 2, 3, 9, 9, 0, false);
        u.stuff('v', 10, 50, 2, 3, 9, 9, 0, false);
        u.stuff('x', 10, 50, 2, 3, 9, 9, 0, false);
        u.light(9);
        int[] order = {0, 0, 1, 2, 1};
        for (int stuff : order) {
            Easel.layAt(u, stuff, 5, 0, 0);
        }
        Easel.layAt(u, 1, 5, 1, 0);
        Easel.layAt(u, 2, 5, 1, 0);
        u.pass(2);
        int[] due = {10, 26, 10, 10, 10};
        for (int i = 0; i < 5; i++) {
            Check.same("P10 fades " + i, u.layerAt(0, 0, i, 'c'), due[i]);
        }
        Check.same("P10 varnish alone", u.layerAt(1, 0, 0, 'c'), 10);
        Check.same("P10 dirt alone", u.layerAt(1, 0, 1, 'c'), 10);
        for (char kind : "sgdzfr".toCharArray()) {
            Underpaint other = new Underpaint();
            other.stuff(kind, 10, 50, 2, 3, 9, 9, 0, false);
            other.light(9);
            Easel.layAt(other, 0, 5, 0, 0);
            other.pass(1);
            Check.same("P10 fades " + kind, other.layerAt(0, 0, 0, 'c'), 18);
        }
    }

    private static void darkening() {
        Underpaint u = Easel.withStuffs();
        u.clash(0, 1);
        u.clash(3, 1);
        u.light(0);
        int[] order = {0, 1, 3, 1, 4};
        for (int stuff : order) {
            Easel.layAt(u, stuff, 5, 4, 4);
        }
        Easel.layAt(u, 1, 5, 5, 4);
        Easel.layAt(u, 4, 5, 5, 4);
        Easel.layAt(u, 3, 5, 5, 4);
        u.pass(4);
        int[] due = {56, 86, 66, 90, 30};
        for (int i = 0; i < 5; i++) {
            Check.same("P10 darkens " + i, u.layerAt(4, 4, i, 'c'), due[i]);
        }
        Check.same("P10 not side by side", u.layerAt(5, 4, 0, 'c'), 90);
        for (int i = 0; i < 3; i++) {
            u.pass(50);
        }
        Check.same("P10 at least 0", u.layerAt(4, 4, 0, 'c'), 0);
        Check.same("P10 at least 0 too", u.layerAt(4, 4, 2, 'c'), 0);
        Check.same("P10 the topmost does not", u.layerAt(4, 4, 4, 'c'), 30);
    }

    /** A layer below varnish fades to 99 first, and is 1 less then. */
    private static void lighterThenDarker() {
        Underpaint u = new Underpaint();
        u.stuff('p', 97, 50, 2, 3, 9, 9, 0, false);
        u.stuff('v', 10, 50, 2, 3, 9, 0, 0, false);
        u.stuff('p', 0, 50, 2, 3, 9, 0, 0, false);
        u.stuff('p', 0, 50, 2, 3, 9, 2, 0, false);
        for (int i : new int[] {0, 2, 3}) {
            u.clash(i, 1);
        }
        for (int i : new int[] {0, 2, 3}) {
            Easel.layAt(u, i, 5, i, 0);
            Easel.layAt(u, 1, 5, i, 0);
        }
        u.pass(1);
        Check.same("P10 99 less 1", u.layerAt(0, 0, 0, 'c'), 98);
        Check.same("P10 0 stays", u.layerAt(2, 0, 0, 'c'), 0);
        Check.same("P10 1 more and 1 less", u.layerAt(3, 0, 0, 'c'), 0);
        u.pass(20);
        Check.same("P10 98 stays", u.layerAt(0, 0, 0, 'c'), 98);
        Check.same("P10 0 stays still", u.layerAt(3, 0, 0, 'c'), 0);
    }

    private static void tiring() {
        Underpaint u = Easel.withStuffs();
        int[] order = {0, 1, 2, 3, 3, 4, 5, 8};
        for (int stuff : order) {
            Easel.layAt(u, stuff, 5, 0, 0);
        }
        Easel.layAt(u, 8, 5, 1, 0);
        Easel.layAt(u, 1, 5, 1, 0);
        u.pass(1);
        Check.same("P10 holds 5 6 4 3 3 2 1 0", u.tired(0, 0), 5);
        Check.same("P10 holds 0 6", u.tired(1, 0), 0);
        u.pass(18);
        Check.same("P10 tired 95", u.tired(0, 0), 95);
        u.pass(1);
        Check.same("P10 at most 99", u.tired(0, 0), 99);
        u.pass(50);
        Check.same("P10 99 stays", u.tired(0, 0), 99);
    }

    private static void dampTires() {
        int[] damps = {0, 34, 35, 50, 65, 66, 99};
        int[] due = {3, 3, 0, 0, 0, 3, 3};
        for (int i = 0; i < damps.length; i++) {
            Underpaint u = Easel.withStuffs();
            Easel.layAt(u, 0, 5, 3, 3);
            u.damp(damps[i]);
            u.pass(3);
            Check.same("P10 damp " + damps[i], u.tired(3, 3), due[i]);
            Check.same("P10 no layer", u.tired(4, 3), 0);
        }
        Underpaint u = Easel.withStuffs();
        Easel.layAt(u, 0, 5, 3, 3);
        Easel.layAt(u, 4, 5, 3, 3);
        u.damp(99);
        u.pass(3);
        Check.same("P10 both", u.tired(3, 3), 6);
    }

    private static void yellowing() {
        Underpaint u = Easel.withStuffs();
        Easel.layAt(u, 5, 5, 0, 0);
        Easel.layAt(u, 5, 5, 1, 0);
        Easel.layAt(u, 8, 5, 1, 0);
        Easel.layAt(u, 3, 5, 2, 0);
        u.pass(9);
        Check.same("P10 1609", u.layerAt(0, 0, 0, 'g'), 0);
        u.pass(1);
        Check.same("P10 1610", u.layerAt(0, 0, 0, 'g'), 1);
        u.pass(9);
        Check.same("P10 1619", u.layerAt(0, 0, 0, 'g'), 1);
        u.pass(11);
        Check.same("P10 1630", u.layerAt(0, 0, 0, 'g'), 3);
        u.pass(50);
        Check.same("P10 1680", u.layerAt(0, 0, 0, 'g'), 8);
        Check.same("P10 below dirt", u.layerAt(1, 0, 0, 'g'), 0);
        Check.same("P10 dirt", u.layerAt(1, 0, 1, 'g'), 0);
        Check.same("P10 paint", u.layerAt(2, 0, 0, 'g'), 0);
        Easel.layAt(u, 5, 5, 0, 0);
        u.pass(20);
        Check.same("P10 kept below", u.layerAt(0, 0, 0, 'g'), 8);
        Check.same("P10 new varnish", u.layerAt(0, 0, 1, 'g'), 2);
    }

    private static void boundOfYellow() {
        Underpaint u = Easel.withStuffs();
        Easel.layAt(u, 5, 5, 0, 0);
        for (int i = 0; i < 19; i++) {
            u.pass(50);
        }
        Check.same("P10 yellow 95", u.layerAt(0, 0, 0, 'g'), 95);
        u.pass(50);
        Check.same("P10 yellow at most 99", u.layerAt(0, 0, 0, 'g'), 99);
        Check.same("P10 lamp at most 9", u.view('l', 0, 0), 9);
        Check.same("P11 late", u.year(), 2600);
    }

    private static void passFile() {
        Underpaint u = new Underpaint();
        Easel.fillFile(u);
        Check.fails("P10 forty", Easel.STATE, () -> u.pass(1));
        Check.fails("P10 argument first", Easel.ARGUMENT, () -> u.pass(51));
        Check.same("P11 unchanged", u.year(), 1600);
    }
}
