/** Promises 25 to 28: scratch, scratches, liesOver, later. */
final class ScratchTest {
    private ScratchTest() {
    }

    static void run() {
        depths();
        supports();
        scratchArguments();
        layersOver();
        order();
    }

    private static Underpaint stack() {
        Underpaint u = Easel.withStuffs();
        Easel.layAt(u, 1, 30, 3, 2);
        Easel.layAt(u, 3, 20, 3, 2);
        Easel.layAt(u, 5, 10, 3, 2);
        return u;
    }

    private static void depths() {
        int[] depth = {1, 9, 10, 11, 29, 30, 31, 59, 60, 999};
        int[] layers = {3, 3, 2, 2, 2, 1, 1, 1, 0, 0};
        int[] thickness = {9, 1, 20, 19, 1, 30, 29, 1, 0, 0};
        for (int i = 0; i < depth.length; i++) {
            Underpaint u = stack();
            Check.same("P25 left of " + depth[i], u.scratch(3, 2, depth[i]), layers[i]);
            Check.same("P25 layers", u.layers(3, 2), layers[i]);
            if (layers[i] > 0) {
                Check.same("P25 thickness", u.layerAt(3, 2, layers[i] - 1, 't'), thickness[i]);
            }
            Check.same("P26 one", u.scratches(), 1);
            Check.same("P25 act", u.acts(), 4);
        }
        Underpaint u = stack();
        u.pass(9);
        u.scratch(3, 2, 15);
        Check.same("P25 tone stays", u.layerAt(3, 2, 1, 'c'), 88);
        Check.same("P25 year stays", u.layerAt(3, 2, 1, 'y'), 1600);
    }

    private static void supports() {
        Underpaint u = Easel.withStuffs();
        Easel.layAt(u, 1, 10, 3, 2);
        Easel.layAt(u, 0, 10, 3, 2);
        Easel.layAt(u, 3, 10, 3, 2);
        Check.same("P25 support above ground", u.scratch(3, 2, 999), 2);
        Check.same("P25 keeps 1", u.layerAt(3, 2, 1, 't'), 1);
        Check.same("P25 ground stays", u.layerAt(3, 2, 0, 't'), 10);
        Check.same("P25 once more", u.scratch(3, 2, 1), 2);
        Check.same("P25 keeps 1 still", u.layerAt(3, 2, 1, 't'), 1);
        Easel.layAt(u, 0, 10, 3, 3);
        Check.same("P25 some of a support", u.scratch(3, 3, 8), 1);
        Check.same("P25 2 left", u.layerAt(3, 3, 0, 't'), 2);
        u.scratch(3, 3, 1);
        Check.same("P25 1 left", u.layerAt(3, 3, 0, 't'), 1);
        Easel.layAt(u, 0, 10, 3, 4);
        u.scratch(3, 4, 10);
        Check.same("P25 just its thickness", u.layerAt(3, 4, 0, 't'), 1);
        Check.same("P26 five", u.scratches(), 5);
    }

    private static void scratchArguments() {
        Underpaint u = stack();
        for (int bad : new int[] {0, 1000, -1, Integer.MIN_VALUE, Integer.MAX_VALUE}) {
            Check.fails("P25 depth", Easel.ARGUMENT, () -> u.scratch(3, 2, bad));
            Check.fails("P25 argument first", Easel.ARGUMENT, () -> u.scratch(0, 0, bad));
        }
        Check.fails("P25 no layers", Easel.UNSUPPORTED, () -> u.scratch(0, 0, 1));
        Check.same("P26 none", u.scratches(), 0);
        Easel.fillFile(u);
        long before = Easel.print(u);
        Check.fails("P25 forty", Easel.STATE, () -> u.scratch(3, 2, 1));
        Check.fails("P25 no layers before state", Easel.UNSUPPORTED, () -> u.scratch(0, 0, 1));
        Check.same("P25 unchanged", Easel.print(u), before);
        Underpaint many = Easel.withStuffs();
        Easel.layAt(many, 0, 5, 0, 0);
        for (int i = 1; i < 40; i++) {
            many.scratch(0, 0, 1);
        }
        Check.same("P26 many", many.scratches(), 39);
        Check.no("P27 the last one of many", many.liesOver(38, 0));
        Check.fails("P27 no more than these", Easel.INDEX, () -> many.liesOver(39, 0));
    }

    private static void layersOver() {
        Underpaint u = stack();
        u.scratch(3, 2, 15);
        Check.no("P27 below", u.liesOver(0, 0));
        Check.no("P27 scratched", u.liesOver(0, 1));
        Check.fails("P27 not there", Easel.NO_ELEMENT, () -> u.liesOver(0, 2));
        Easel.layAt(u, 5, 3, 3, 2);
        Check.yes("P27 above", u.liesOver(0, 2));
        Check.no("P27 still below", u.liesOver(0, 1));
        for (int bad : new int[] {-1, 3, Integer.MIN_VALUE, Integer.MAX_VALUE}) {
            Check.fails("P27 no layer", Easel.NO_ELEMENT, () -> u.liesOver(0, bad));
        }
        for (int bad : new int[] {-1, 1, 40, Integer.MIN_VALUE, Integer.MAX_VALUE}) {
            Check.fails("P27 no scratch", Easel.INDEX, () -> u.liesOver(bad, 0));
            Check.fails("P27 index first", Easel.INDEX, () -> u.liesOver(bad, 9));
        }
        Easel.layAt(u, 1, 3, 4, 2);
        u.scratch(4, 2, 3);
        Check.fails("P27 nothing left", Easel.NO_ELEMENT, () -> u.liesOver(1, 0));
        Easel.layAt(u, 1, 3, 4, 2);
        Check.yes("P27 all lies over it", u.liesOver(1, 0));
        u.takeBack(3);
        Check.same("P26 taken back", u.scratches(), 1);
        Check.yes("P27 has the first's number now", u.liesOver(0, 0));
    }

    private static void order() {
        Underpaint u = stack();
        u.scratch(3, 2, 35);
        Check.same("P25 one left", u.layers(3, 2), 1);
        Easel.layAt(u, 3, 5, 3, 2);
        u.scratch(3, 2, 1);
        Check.same("P28 the second", u.later(0, 1), 1);
        Check.same("P28 the second, told the other way", u.later(1, 0), 1);
        Check.fails("P28 itself", Easel.UNSUPPORTED, () -> u.later(0, 0));
        u.scratch(3, 2, 1);
        Check.fails("P28 as many left", Easel.UNSUPPORTED, () -> u.later(1, 2));
        Check.same("P28 the third", u.later(0, 2), 2);
        u.scratch(3, 2, 30);
        Check.fails("P28 no layer tells it", Easel.UNSUPPORTED, () -> u.later(0, 1));
        Easel.layAt(u, 3, 5, 3, 2);
        Check.same("P28 a layer tells it", u.later(1, 3), 1);
        Easel.layAt(u, 1, 3, 4, 2);
        u.scratch(4, 2, 1);
        Check.fails("P28 other place", Easel.UNSUPPORTED, () -> u.later(0, 4));
        Check.fails("P28 other place", Easel.UNSUPPORTED, () -> u.later(4, 0));
        for (int bad : new int[] {-1, 5, Integer.MIN_VALUE, Integer.MAX_VALUE}) {
            Check.fails("P28 no scratch", Easel.INDEX, () -> u.later(bad, 0));
            Check.fails("P28 no other", Easel.INDEX, () -> u.later(0, bad));
        }
    }
}
