/** Promises 1 to 3: a new object, stuff, clash. */
final class StuffTest {
    private StuffTest() {
    }

    static void run() {
        newObject();
        stuffs();
        stuffRanges();
        stuffOrder();
        clashes();
    }

    private static void newObject() {
        Underpaint u = new Underpaint();
        Check.same("P1 year", u.year(), 1600);
        Check.same("P1 acts", u.acts(), 0);
        Check.same("P1 scratches", u.scratches(), 0);
        for (int y = 0; y < 6; y++) {
            for (int x = 0; x < 8; x++) {
                Check.same("P1 layers", u.layers(x, y), 0);
                Check.same("P1 tired", u.tired(x, y), 0);
            }
        }
        Check.same("P1 light", u.light(1), 5);
        Check.same("P1 damp", u.damp(1), 50);
        Check.same("P1 original", u.original(1), 1600);
        Check.yes("P1 sound", u.isSound());
    }

    private static void stuffs() {
        Underpaint u = new Underpaint();
        String kinds = "sgdpzvfrxpzv";
        for (int i = 0; i < 12; i++) {
            Check.same("P2 number", u.stuff(kinds.charAt(i), 99, 100, 9, 9, 9, 9, 9999, i % 2 == 0), i);
        }
        Check.fails("P2 twelve", Easel.STATE, () -> u.stuff('s', 0, 1, 0, 0, 0, 0, 0, true));
        Check.fails("P2 argument first", Easel.ARGUMENT, () -> u.stuff('q', 0, 1, 0, 0, 0, 0, 0, true));
        Check.same("P2 last one stands", u.lay(11, 5, 0, 0, 0, 0), 1);
        Check.same("P2 tone", u.layerAt(0, 0, 0, 'c'), 99);
        Check.same("P2 least numbers", new Underpaint().stuff('x', 0, 1, 0, 0, 0, 0, 0, false), 0);
    }

    private static void stuffRanges() {
        Underpaint u = new Underpaint();
        for (char kind = 0; kind < 400; kind++) {
            char k = kind;
            if ("sgdpzvfrx".indexOf(k) < 0) {
                Check.fails("P2 kind " + (int) k, Easel.ARGUMENT, () -> u.stuff(k, 0, 1, 0, 0, 0, 0, 0, true));
            }
        }
        int[] least = {0, 1, 0, 0, 0, 0, 0};
        int[] most = {99, 100, 9, 9, 9, 9, 9999};
        for (int i = 0; i < 7; i++) {
            int[] low = least.clone();
            low[i] = least[i] - 1;
            int[] high = most.clone();
            high[i] = most[i] + 1;
            int[] far = least.clone();
            far[i] = Integer.MIN_VALUE;
            Check.fails("P2 below " + i, Easel.ARGUMENT, () -> put(u, low));
            Check.fails("P2 above " + i, Easel.ARGUMENT, () -> put(u, high));
            Check.fails("P2 far below " + i, Easel.ARGUMENT, () -> put(u, far));
        }
        Check.same("P2 none was added", put(u, least), 0);
        Check.same("P2 greatest", put(u, most), 1);
    }

    private static int put(Underpaint u, int[] n) {
        return u.stuff('p', n[0], n[1], n[2], n[3], n[4], n[5], n[6], true);
    }

    /** Numbers that lie beside one another must not be mixed up. */
    private static void stuffOrder() {
        Underpaint u = new Underpaint();
        u.stuff('p', 11, 22, 3, 4, 5, 6, 1234, false);
        u.lay(0, 20, 0, 0, 0, 0);
        Check.same("P2 its tone", u.layerAt(0, 0, 0, 'c'), 11);
        Check.same("P2 its cover", u.view('p', 0, 0), (22 * 11 + 78 * 50) / 100);
        Check.same("P2 its weight", u.view('w', 0, 0), 6);
        Check.same("P2 its lamp", u.view('l', 0, 0), 4);
        Check.same("P2 its heat", u.view('h', 0, 0), 0);
        Check.same("P2 its year", u.tooYoung(1233), 0);
        Check.fails("P2 not later", Easel.NO_ELEMENT, () -> u.tooYoung(1234));
        u.light(9);
        u.pass(1);
        Check.same("P2 its fading", u.layerAt(0, 0, 0, 'c'), 16);
    }

    private static void clashes() {
        Underpaint u = Easel.withStuffs();
        Check.yes("P3 new", u.clash(3, 4));
        Check.no("P3 told", u.clash(3, 4));
        Check.no("P3 told the other way", u.clash(4, 3));
        Check.yes("P3 with itself", u.clash(5, 5));
        Check.no("P3 with itself again", u.clash(5, 5));
        Check.yes("P3 another", u.clash(3, 5));
        Check.yes("P3 still not told", u.clash(4, 5));
        for (int bad : new int[] {-1, 9, 12, 32, Integer.MIN_VALUE, Integer.MAX_VALUE}) {
            Check.fails("P3 no stuff", Easel.INDEX, () -> u.clash(bad, 0));
            Check.fails("P3 no other", Easel.INDEX, () -> u.clash(0, bad));
        }
        u.glue(0, 0);
        Check.fails("P3 an act", Easel.UNSUPPORTED, () -> u.clash(0, 1));
        Check.fails("P3 a pair that was told", Easel.UNSUPPORTED, () -> u.clash(3, 4));
        Check.fails("P3 index first", Easel.INDEX, () -> u.clash(0, 9));
        u.takeBack(0);
        Check.yes("P3 empty again", u.clash(0, 1));
        Check.no("P3 kept", u.clash(3, 4));
        Easel.layAll(u, 5, 1);
        Easel.layAll(u, 5, 1);
        u.pass(3);
        Check.same("P3 the lower darkens", u.layerAt(2, 2, 0, 'c'), 47);
        Check.same("P3 the upper does not", u.layerAt(2, 2, 1, 'c'), 50);
    }
}
