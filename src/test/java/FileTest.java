/** Promises 44 to 46 and 50: acts, actAt, takeBack, isSound. */
final class FileTest {
    private FileTest() {
    }

    static void run() {
        letters();
        arguments();
        orderStays();
        cannotBeDone();
        years();
        whatStays();
        recomputed();
        backToNothing();
    }

    /** Each kind of act once. */
    private static Underpaint all() {
        Underpaint u = Easel.withStuffs();
        u.solvent(5, 10);
        Easel.layAll(u, 1, 30);
        u.pass(10);
        u.scratch(3, 3, 10);
        u.swab(0, 0, 0, 3);
        u.fill(6, 3, 3);
        u.retouch(7, 3, 3, 60);
        u.glue(3, 3);
        u.leg(3, 10);
        u.lend();
        return u;
    }

    private static void letters() {
        Check.same("P44 none", new Underpaint().acts(), 0);
        Underpaint u = all();
        Check.same("P44 acts", u.acts(), 8);
        for (int i = 0; i < 8; i++) {
            Check.same("P45 act " + i, u.actAt(i), "lyswfrgo".charAt(i));
        }
        Check.yes("P50 sound", u.isSound());
        u.light(3);
        u.damp(3);
        u.original(3);
        u.note('p', 1, 1);
        u.sign();
        u.leg(1, 1);
        u.ring(1, true);
        u.risk();
        Check.same("P44 no more", u.acts(), 8);
        Check.yes("P50 still sound", u.isSound());
    }

    private static void arguments() {
        Underpaint u = all();
        for (int bad : new int[] {-1, 8, 40, Integer.MIN_VALUE, Integer.MAX_VALUE}) {
            Check.fails("P45 no act", Easel.INDEX, () -> u.actAt(bad));
            Check.fails("P46 no act", Easel.INDEX, () -> u.takeBack(bad));
        }
        Check.fails("P46 none at all", Easel.INDEX, () -> new Underpaint().takeBack(0));
        Check.fails("P45 none at all", Easel.INDEX, () -> new Underpaint().actAt(0));
    }

    private static void orderStays() {
        for (int i = 1; i < 8; i++) {
            Underpaint u = all();
            if (i != 2) {
                Check.same("P46 left", u.takeBack(i), 7);
                for (int j = 0; j < 7; j++) {
                    Check.same("P46 order", u.actAt(j), "lyswfrgo".charAt(j < i ? j : j + 1));
                }
                Check.yes("P50 sound", u.isSound());
            }
        }
    }

    private static void cannotBeDone() {
        Underpaint u = all();
        long before = Easel.print(u);
        Check.fails("P46 a scratch of nothing", Easel.UNSUPPORTED, () -> u.takeBack(0));
        Check.fails("P46 a fill of what is not lower", Easel.UNSUPPORTED, () -> u.takeBack(2));
        Check.same("P46 unchanged", Easel.print(u), before);
        Underpaint full = Easel.withStuffs();
        for (int i = 0; i < 9; i++) {
            Easel.layAt(full, 3, 10, 2, 2);
        }
        full.scratch(2, 2, 10);
        Easel.layAt(full, 3, 10, 2, 2);
        full.scratch(2, 2, 10);
        full.retouch(7, 2, 2, 4);
        full.scratch(2, 2, 5);
        Easel.layAt(full, 3, 200, 2, 3);
        full.fill(6, 2, 2);
        long print = Easel.print(full);
        Check.fails("P46 a tenth layer", Easel.UNSUPPORTED, () -> full.takeBack(9));
        Check.fails("P46 a tenth of retouching", Easel.UNSUPPORTED, () -> full.takeBack(11));
        Check.fails("P46 a tenth of fill", Easel.UNSUPPORTED, () -> full.takeBack(13));
        Check.same("P46 unchanged by these", Easel.print(full), print);
        Check.same("P46 can be", full.takeBack(15), 15);
        Check.same("P46 can be then", full.takeBack(13), 14);
    }

    private static void years() {
        Underpaint u = Easel.withStuffs();
        Easel.layAt(u, 3, 10, 2, 2);
        u.light(9);
        u.damp(0);
        u.pass(4);
        u.light(0);
        u.damp(50);
        Easel.layAt(u, 5, 10, 2, 2);
        u.pass(20);
        Check.same("P46 before", u.layerAt(2, 2, 0, 'c'), 82);
        Check.same("P46 tired before", u.tired(2, 2), 24);
        Check.same("P46 an act that changes little", u.glue(7, 5), 0);
        u.takeBack(4);
        Check.same("P46 with the light of then", u.layerAt(2, 2, 0, 'c'), 82);
        Check.same("P46 with the damp of then", u.tired(2, 2), 24);
        Check.same("P46 year", u.year(), 1624);
        u.takeBack(1);
        Check.same("P46 fewer years", u.year(), 1620);
        Check.same("P46 laid earlier", u.layerAt(2, 2, 1, 'y'), 1600);
        Check.same("P46 yellow of other years", u.layerAt(2, 2, 1, 'g'), 2);
        Check.same("P46 no light", u.layerAt(2, 2, 0, 'c'), 70);
        Check.same("P8 light stays", u.light(1), 0);
        Check.same("P9 damp stays", u.damp(1), 50);
    }

    private static void whatStays() {
        Underpaint u = all();
        u.original(1700);
        u.note('p', 0, 0);
        int noted = u.noted('p', 0, 0);
        int tested = u.tested(0);
        u.sign();
        u.leg(4, 4);
        u.takeBack(7);
        u.takeBack(3);
        Check.same("P46 noted", u.noted('p', 0, 0), noted);
        Check.same("P46 tested", u.tested(0), tested);
        Check.no("P46 signed", u.sign());
        Check.same("P46 legs", u.leg(4, 4), 2);
        Check.same("P46 original", u.original(1), 1700);
        swabsDoneAgain();
    }

    /** Swabs that are done again need neither test nor signature, and are no tests. */
    private static void swabsDoneAgain() {
        Underpaint u = Easel.withStuffs();
        u.solvent(5, 10);
        Easel.layAll(u, 5, 30);
        Easel.layAll(u, 8, 5);
        u.sign();
        u.swab(0, 3, 3, 3);
        u.swab(0, 0, 0, 2);
        Check.same("P30 tested", u.tested(0), 20);
        u.takeBack(1);
        Check.same("P46 deeper than tested", u.layers(3, 3), 0);
        Check.same("P46 no test", u.tested(0), 20);
        u.takeBack(2);
        Check.same("P46 the test is taken back", u.layers(0, 0), 1);
        Check.same("P46 tested all the same", u.tested(0), 20);
        Check.yes("P46 not signed again", u.sign());
        Check.yes("P50 sound", u.isSound());
    }

    /** Fills, retouching and loans are done again as the picture is then. */
    private static void recomputed() {
        Underpaint u = Easel.withStuffs();
        Easel.layAll(u, 0, 30);
        Easel.layAt(u, 1, 20, 2, 2);
        Easel.layAt(u, 1, 50, 2, 3);
        u.fill(6, 2, 4);
        u.retouch(7, 2, 4, 66);
        Check.same("P33 filled", u.layerAt(2, 4, 1, 't'), 50);
        Easel.layAt(u, 1, 40, 2, 5);
        u.glue(1, 1);
        u.takeBack(6);
        Check.same("P46 filled as before", u.layerAt(2, 4, 1, 't'), 50);
        Easel.layAt(u, 1, 40, 3, 4);
        u.takeBack(0);
        Check.same("P46 no support", u.layers(0, 0), 0);
        Check.same("P46 filled again", u.layerAt(2, 4, 0, 't'), 50);
        Check.same("P46 retouched again", u.view('p', 2, 4), 66);
        Check.fails("P46 nothing to fill up to", Easel.UNSUPPORTED, () -> u.takeBack(1));
        Underpaint other = Easel.withStuffs();
        Easel.layAt(other, 1, 20, 2, 2);
        Easel.layAt(other, 1, 50, 2, 2);
        other.fill(6, 2, 3);
        Check.same("P33 filled to 70", other.layerAt(2, 3, 0, 't'), 70);
        other.retouch(7, 2, 3, 66);
        int tone = other.layerAt(2, 3, 1, 'c');
        other.takeBack(1);
        Check.same("P46 filled to 20", other.layerAt(2, 3, 0, 't'), 20);
        Check.same("P46 the same tone", other.layerAt(2, 3, 1, 'c'), tone);
        Underpaint lent = Easel.withStuffs();
        Easel.layAt(lent, 1, 20, 2, 2);
        Easel.layAt(lent, 3, 20, 2, 2);
        lent.pass(50);
        lent.leg(9, 50);
        lent.leg(9, 50);
        Check.same("P43 two", lent.lend(), 2);
        lent.takeBack(1);
        Check.same("P46 not tired, so nothing flakes", lent.layers(2, 2), 1);
        Check.same("P46 tired by the legs", lent.tired(2, 2), 2);
        lent.takeBack(2);
        Check.same("P46 back to one layer", lent.layers(2, 2), 1);
        Check.same("P46 years alone", lent.tired(2, 2), 0);
        Check.yes("P50 sound", lent.isSound());
    }

    private static void backToNothing() {
        Underpaint u = all();
        for (int i = 7; i >= 0; i--) {
            Check.same("P46 left", u.takeBack(i), i);
            Check.yes("P50 sound", u.isSound());
        }
        Check.same("P46 as at first", u.checksum(), new Underpaint().checksum());
        Check.same("P46 year", u.year(), 1600);
        Check.same("P46 scratches", u.scratches(), 0);
        Easel.fillFile(u);
        Check.same("P46 39", u.takeBack(20), 39);
        Check.same("P46 room again", u.pass(1), 1601);
        Check.same("P45 the last act", u.actAt(39), 'y');
    }
}
