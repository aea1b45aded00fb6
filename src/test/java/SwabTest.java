/** Promises 29 to 32: solvent, tested, sign, swab. */
final class SwabTest {
    private SwabTest() {
    }

    static void run() {
        solvents();
        takesOff();
        takesWhat();
        swells();
        tests();
        hiddenPlaces();
        signatures();
        glaze();
        swabArguments();
    }

    private static void solvents() {
        Underpaint u = new Underpaint();
        for (int i = 0; i < 6; i++) {
            Check.same("P29 number", u.solvent(i == 0 ? 1 : 9, i == 0 ? 1 : 20), i);
            Check.same("P30 at first", u.tested(i), 0);
        }
        Check.fails("P29 six", Easel.STATE, () -> u.solvent(1, 1));
        for (int bad : new int[] {0, 10, -1, Integer.MIN_VALUE, Integer.MAX_VALUE}) {
            Check.fails("P29 strength", Easel.ARGUMENT, () -> u.solvent(bad, 1));
        }
        for (int bad : new int[] {0, 21, -1, Integer.MIN_VALUE, Integer.MAX_VALUE}) {
            Check.fails("P29 reach", Easel.ARGUMENT, () -> u.solvent(1, bad));
        }
        for (int bad : new int[] {-1, 6, Integer.MIN_VALUE, Integer.MAX_VALUE}) {
            Check.fails("P30 no solvent", Easel.INDEX, () -> u.tested(bad));
        }
    }

    /** Ground 30, paint 20, varnish 10 and dirt 3 at a hidden place. */
    private static Underpaint dirty() {
        Underpaint u = Easel.withStuffs();
        Easel.layAll(u, 1, 30);
        Easel.layAll(u, 3, 20);
        Easel.layAll(u, 5, 10);
        Easel.layAll(u, 8, 3);
        u.solvent(2, 3);
        u.solvent(9, 20);
        u.solvent(1, 20);
        return u;
    }

    private static void takesOff() {
        int[] minutes = {1, 2, 4, 5, 60};
        int[] depth = {3, 6, 12, 13, 13};
        int[] layers = {3, 3, 3, 2, 2};
        int[] thickness = {10, 7, 1, 20, 20};
        for (int i = 0; i < minutes.length; i++) {
            Underpaint u = dirty();
            Check.same("P32 depth", u.swab(0, 0, 0, minutes[i]), depth[i]);
            Check.same("P32 layers", u.layers(0, 0), layers[i]);
            Check.same("P32 thickness", u.layerAt(0, 0, layers[i] - 1, 't'), thickness[i]);
            Check.same("P32 not elsewhere", u.layers(1, 0), 4);
        }
        Underpaint u = dirty();
        Check.same("P32 hold 1 is not less than 1", u.swab(2, 0, 0, 60), 3);
        Check.same("P32 varnish stays", u.layers(0, 0), 3);
        Check.same("P32 no layers", new3().swab(0, 3, 0, 5), 0);
    }

    private static Underpaint new3() {
        Underpaint u = new Underpaint();
        u.solvent(3, 3);
        return u;
    }

    private static void takesWhat() {
        for (char kind : "sgdpzvfrx".toCharArray()) {
            Underpaint u = new Underpaint();
            u.stuff(kind, 0, 1, 0, 0, 4, 0, 0, true);
            u.solvent(4, 20);
            u.solvent(5, 20);
            Easel.layAll(u, 0, 10);
            boolean isTaken = "zvfrx".indexOf(kind) >= 0;
            Check.same("P32 hold as great " + kind, u.swab(0, 0, 0, 1), 0);
            Check.same("P32 hold less " + kind, u.swab(1, 0, 1, 1), isTaken ? 10 : 0);
            boolean swells = kind == 'p' || kind == 'z';
            Check.same("P32 swells at its hold " + kind, u.tired(0, 0), swells ? 1 : 0);
            Check.same("P32 swells above its hold " + kind, u.tired(0, 1), kind == 'p' ? 1 : 0);
        }
    }

    private static void swells() {
        Underpaint u = dirty();
        u.swab(0, 0, 0, 20);
        Check.same("P32 hold 3 above 2", u.tired(0, 0), 0);
        u.swab(1, 0, 1, 60);
        Check.same("P32 by the minutes", u.tired(0, 1), 60);
        u.swab(1, 0, 1, 30);
        Check.same("P32 more", u.tired(0, 1), 90);
        u.swab(1, 0, 1, 30);
        Check.same("P32 at most 99", u.tired(0, 1), 99);
        u.swab(1, 0, 2, 1);
        Check.same("P32 13 of 20", u.layers(0, 2), 2);
        Check.same("P32 tired by 1", u.tired(0, 2), 1);
        Easel.layAt(u, 5, 200, 0, 3);
        u.swab(1, 0, 3, 5);
        Check.same("P32 varnish does not swell", u.tired(0, 3), 0);
        Easel.layAt(u, 4, 50, 0, 4);
        Check.same("P32 some of a glaze", u.swab(0, 0, 4, 2), 0);
        Check.same("P32 glaze of hold 2 swells", u.tired(0, 4), 2);
        Check.same("P32 some of a glaze", u.swab(1, 0, 4, 2), 40);
        Check.same("P32 swells, being left", u.tired(0, 4), 4);
        Check.same("P32 10 left", u.layerAt(0, 4, 4, 't'), 10);
    }

    private static void tests() {
        Underpaint u = dirty();
        Check.fails("P32 untested", Easel.UNSUPPORTED, () -> u.swab(0, 3, 3, 1));
        u.swab(0, 0, 0, 1);
        Check.same("P30 tested", u.tested(0), 3);
        Check.same("P30 the other is not", u.tested(1), 0);
        Check.same("P32 as deep", u.swab(0, 3, 3, 1), 3);
        Check.same("P30 elsewhere is no test", u.tested(0), 3);
        long before = Easel.print(u);
        Check.fails("P32 deeper", Easel.UNSUPPORTED, () -> u.swab(0, 4, 3, 2));
        Check.same("P32 unchanged", Easel.print(u), before);
        u.swab(0, 0, 1, 2);
        Check.same("P30 more", u.tested(0), 6);
        u.swab(0, 0, 2, 1);
        Check.same("P30 less does not count", u.tested(0), 6);
        Check.same("P32 then", u.swab(0, 4, 3, 2), 6);
        u.takeBack(4);
        u.takeBack(5);
        Check.same("P30 stays tested", u.tested(0), 6);
        Check.same("P30 done again is no test", u.tested(1), 0);
        Check.fails("P32 nothing to take is not untested", Easel.UNSUPPORTED, () -> u.swab(1, 3, 3, 1));
        u.swab(0, 0, 0, 60);
        Check.same("P32 depth 0 needs no test", u.swab(2, 0, 0, 60), 0);
    }

    private static void hiddenPlaces() {
        for (int y = 0; y < 6; y++) {
            for (int x = 0; x < 8; x++) {
                Underpaint u = dirty();
                int px = x;
                int py = y;
                if (x == 0 || x == 7 || y == 0 || y == 5) {
                    u.sign();
                    Check.same("P32 hidden", u.swab(0, x, y, 1), 3);
                    Check.same("P30 hidden", u.tested(0), 3);
                    Check.no("P31 still signed", u.sign());
                } else {
                    Check.fails("P32 not hidden", Easel.UNSUPPORTED, () -> u.swab(0, px, py, 1));
                }
            }
        }
    }

    private static void signatures() {
        Underpaint u = dirty();
        Check.yes("P31 new", u.sign());
        Check.no("P31 signed", u.sign());
        Check.same("P32 signed", u.swab(0, 3, 3, 4), 12);
        Check.same("P30 signed is no test", u.tested(0), 0);
        Check.fails("P32 but once", Easel.UNSUPPORTED, () -> u.swab(0, 4, 3, 4));
        Check.yes("P31 used up", u.sign());
        u.swab(0, 0, 0, 4);
        u.takeBack(4);
        Check.no("P31 kept by acts done again", u.sign());
        Check.same("P32 tested too", u.swab(0, 4, 3, 4), 12);
        Check.yes("P31 used up all the same", u.sign());
        Check.fails("P32 wrong", Easel.ARGUMENT, () -> u.swab(0, 4, 3, 0));
        Check.no("P31 not used by what is not done", u.sign());
        Check.same("P31 no act", u.acts(), 6);
    }

    private static void glaze() {
        Underpaint u = Easel.withStuffs();
        Easel.layAll(u, 1, 30);
        Easel.layAll(u, 4, 20);
        Easel.layAll(u, 5, 10);
        u.solvent(3, 10);
        u.solvent(2, 10);
        u.swab(0, 0, 0, 60);
        Check.same("P32 tested deep", u.tested(0), 30);
        Check.same("P32 just the varnish", u.swab(0, 2, 2, 1), 10);
        Check.same("P32 the glaze swells", u.tired(2, 2), 1);
        Check.fails("P32 some glaze", Easel.UNSUPPORTED, () -> u.swab(0, 3, 2, 2));
        u.solvent(3, 11);
        u.swab(2, 0, 2, 60);
        Check.fails("P32 the least of the glaze", Easel.UNSUPPORTED, () -> u.swab(2, 3, 2, 1));
        Check.fails("P32 the glaze alone", Easel.UNSUPPORTED, () -> u.swab(0, 2, 2, 1));
        Check.fails("P32 all the glaze", Easel.UNSUPPORTED, () -> u.swab(0, 3, 2, 9));
        u.sign();
        Check.same("P32 signed", u.swab(0, 3, 2, 2), 20);
        Check.same("P32 thinner", u.layerAt(3, 2, 1, 't'), 10);
        Check.same("P32 swells", u.tired(3, 2), 2);
        u.swab(1, 0, 1, 60);
        Check.same("P32 too weak for the glaze", u.swab(1, 4, 2, 60), 10);
        Check.same("P32 swells by 60", u.tired(4, 2), 60);
    }

    private static void swabArguments() {
        Underpaint u = dirty();
        for (int bad : new int[] {-1, 3, Integer.MIN_VALUE, Integer.MAX_VALUE}) {
            Check.fails("P32 no solvent", Easel.INDEX, () -> u.swab(bad, 0, 0, 1));
            Check.fails("P32 index first", Easel.INDEX, () -> u.swab(bad, 8, 0, 0));
            Check.fails("P32 no x", Easel.ARGUMENT, () -> u.swab(0, bad < 0 ? bad : bad + (bad < 9 ? 5 : 0), 0, 1));
            Check.fails("P32 no y", Easel.ARGUMENT, () -> u.swab(0, 0, bad < 0 ? bad : bad + (bad < 9 ? 3 : 0), 1));
        }
        for (int bad : new int[] {0, 61, -1, Integer.MIN_VALUE, Integer.MAX_VALUE}) {
            Check.fails("P32 minutes", Easel.ARGUMENT, () -> u.swab(0, 0, 0, bad));
            Check.fails("P32 argument first", Easel.ARGUMENT, () -> u.swab(0, 3, 3, bad));
        }
        Easel.fillFile(u);
        long before = Easel.print(u);
        Check.fails("P32 forty", Easel.STATE, () -> u.swab(0, 0, 0, 1));
        Check.same("P30 no test then", u.tested(0), 0);
        Check.fails("P32 untested before state", Easel.UNSUPPORTED, () -> u.swab(0, 3, 3, 1));
        u.sign();
        Check.fails("P32 signed", Easel.STATE, () -> u.swab(0, 3, 3, 1));
        Check.no("P31 kept", u.sign());
        Check.same("P32 unchanged", Easel.print(u), before);
    }
}
