/** Promises 4 to 7: lay, layers, layerAt, tired. */
final class LayerTest {
    private LayerTest() {
    }

    static void run() {
        boxes();
        layArguments();
        layFull();
        layFile();
        whatOfLayers();
        badPlaces();
        tiredness();
    }

    private static void boxes() {
        Underpaint u = Easel.withStuffs();
        Check.same("P4 all", u.lay(0, 200, 0, 0, 7, 5), 48);
        Check.same("P4 one", u.lay(1, 1, 7, 5, 7, 5), 1);
        Check.same("P4 box", u.lay(3, 7, 2, 1, 4, 4), 12);
        for (int y = 0; y < 6; y++) {
            for (int x = 0; x < 8; x++) {
                boolean isIn = x >= 2 && x <= 4 && y >= 1 && y <= 4;
                int due = isIn || x == 7 && y == 5 ? 2 : 1;
                Check.same("P5 layers " + x + " " + y, u.layers(x, y), due);
            }
        }
        Check.same("P4 acts", u.acts(), 3);
    }

    private static void layArguments() {
        Underpaint u = Easel.withStuffs();
        for (int bad : new int[] {-1, 9, Integer.MAX_VALUE, Integer.MIN_VALUE}) {
            Check.fails("P4 stuff", Easel.INDEX, () -> u.lay(bad, 1, 0, 0, 0, 0));
            Check.fails("P4 index first", Easel.INDEX, () -> u.lay(bad, 0, -1, 0, 0, 0));
        }
        for (int bad : new int[] {0, 201, -1, Integer.MAX_VALUE, Integer.MIN_VALUE}) {
            Check.fails("P4 thickness", Easel.ARGUMENT, () -> u.lay(0, bad, 0, 0, 0, 0));
        }
        int[][] boxes = {{-1, 0, 0, 0}, {0, -1, 0, 0}, {0, 0, 8, 0}, {0, 0, 0, 6}, {8, 0, 8, 0}, {0, 6, 0, 6},
            {3, 0, 2, 0}, {0, 3, 0, 2}, {0, 0, -1, 0}, {0, 0, 0, -1}, {0, 0, Integer.MAX_VALUE, 0},
            {Integer.MIN_VALUE, 0, 0, 0}, {7, 5, 0, 0}};
        for (int[] b : boxes) {
            Check.fails("P4 box", Easel.ARGUMENT, () -> u.lay(0, 1, b[0], b[1], b[2], b[3]));
        }
        Check.same("P4 nothing was laid", u.checksum(), new Underpaint().checksum());
        Check.same("P4 nothing was kept", u.acts(), 0);
    }

    private static void layFull() {
        Underpaint u = Easel.withStuffs();
        for (int i = 0; i < 9; i++) {
            Check.same("P4 nine", u.lay(3, 1, 3, 3, 3, 3), 1);
        }
        long before = Easel.print(u);
        Check.fails("P4 a tenth", Easel.UNSUPPORTED, () -> u.lay(3, 1, 3, 3, 3, 3));
        Check.fails("P4 not anywhere", Easel.UNSUPPORTED, () -> u.lay(3, 1, 0, 0, 7, 5));
        Check.fails("P4 the last one of the box", Easel.UNSUPPORTED, () -> u.lay(3, 1, 0, 0, 3, 3));
        Check.fails("P4 argument first", Easel.ARGUMENT, () -> u.lay(3, 201, 3, 3, 3, 3));
        Check.same("P4 unchanged", Easel.print(u), before);
        Check.same("P4 beside it", u.lay(3, 1, 0, 0, 7, 2), 24);
    }

    private static void layFile() {
        Underpaint u = Easel.withStuffs();
        for (int i = 0; i < 9; i++) {
            u.lay(3, 1, 0, 0, 0, 0);
        }
        Easel.fillFile(u);
        long before = Easel.print(u);
        Check.fails("P4 forty acts", Easel.STATE, () -> u.lay(3, 1, 1, 1, 1, 1));
        Check.fails("P4 full stack first", Easel.UNSUPPORTED, () -> u.lay(3, 1, 0, 0, 1, 1));
        Check.fails("P4 argument before state", Easel.ARGUMENT, () -> u.lay(3, 0, 1, 1, 1, 1));
        Check.fails("P4 index before state", Easel.INDEX, () -> u.lay(9, 1, 1, 1, 1, 1));
        Check.same("P4 unchanged by the file", Easel.print(u), before);
    }

    private static void whatOfLayers() {
        Underpaint u = Easel.withStuffs();
        Easel.layAt(u, 3, 44, 6, 2);
        u.pass(7);
        Easel.layAt(u, 5, 11, 6, 2);
        u.pass(3);
        Check.same("P6 stuff", u.layerAt(6, 2, 0, 's'), 3);
        Check.same("P6 thickness", u.layerAt(6, 2, 0, 't'), 44);
        Check.same("P6 year", u.layerAt(6, 2, 0, 'y'), 1600);
        Check.same("P6 tone", u.layerAt(6, 2, 0, 'c'), 70 + 10 * 2);
        Check.same("P6 yellow", u.layerAt(6, 2, 0, 'g'), 0);
        Check.same("P6 upper stuff", u.layerAt(6, 2, 1, 's'), 5);
        Check.same("P6 upper thickness", u.layerAt(6, 2, 1, 't'), 11);
        Check.same("P6 upper year", u.layerAt(6, 2, 1, 'y'), 1607);
        Check.same("P6 upper tone", u.layerAt(6, 2, 1, 'c'), 50);
        Check.same("P6 upper yellow", u.layerAt(6, 2, 1, 'g'), 1);
        for (int bad : new int[] {-1, 2, 9, Integer.MIN_VALUE, Integer.MAX_VALUE}) {
            Check.fails("P6 no layer", Easel.NO_ELEMENT, () -> u.layerAt(6, 2, bad, 's'));
            Check.fails("P6 thing first", Easel.ARGUMENT, () -> u.layerAt(6, 2, bad, 'q'));
            Check.fails("P6 place first", Easel.ARGUMENT, () -> u.layerAt(6, 6, bad, 's'));
        }
        for (char c = 0; c < 300; c++) {
            char what = c;
            if ("stycg".indexOf(what) < 0) {
                Check.fails("P6 no thing", Easel.ARGUMENT, () -> u.layerAt(6, 2, 0, what));
            }
        }
        Check.fails("P6 empty", Easel.NO_ELEMENT, () -> u.layerAt(0, 0, 0, 's'));
    }

    private static void badPlaces() {
        Underpaint u = Easel.withStuffs();
        Easel.layAll(u, 0, 9);
        int[][] places = {{-1, 0}, {8, 0}, {0, -1}, {0, 6}, {6, 7}, {Integer.MAX_VALUE, 0}, {0, Integer.MAX_VALUE},
            {Integer.MIN_VALUE, 3}, {3, Integer.MIN_VALUE}};
        for (int[] p : places) {
            Check.fails("P5 place", Easel.ARGUMENT, () -> u.layers(p[0], p[1]));
            Check.fails("P6 place", Easel.ARGUMENT, () -> u.layerAt(p[0], p[1], 0, 's'));
            Check.fails("P7 place", Easel.ARGUMENT, () -> u.tired(p[0], p[1]));
            Check.fails("P12 place", Easel.ARGUMENT, () -> u.view('p', p[0], p[1]));
            Check.fails("P13 place", Easel.ARGUMENT, () -> u.note('p', p[0], p[1]));
            Check.fails("P14 place", Easel.ARGUMENT, () -> u.noted('p', p[0], p[1]));
            Check.fails("P15 place", Easel.ARGUMENT, () -> u.guesses(p[0], p[1]));
            Check.fails("P16 place", Easel.ARGUMENT, () -> u.guessAt(p[0], p[1], 0, 0));
            Check.fails("P17 place", Easel.ARGUMENT, () -> u.isPossible(p[0], p[1]));
            Check.fails("P25 place", Easel.ARGUMENT, () -> u.scratch(p[0], p[1], 1));
            Check.fails("P33 place", Easel.ARGUMENT, () -> u.fill(Easel.FILL, p[0], p[1]));
            Check.fails("P34 place", Easel.ARGUMENT, () -> u.retouch(Easel.RETOUCH, p[0], p[1], 0));
            Check.fails("P35 place", Easel.ARGUMENT, () -> u.isTold(p[0], p[1]));
            Check.fails("P36 place", Easel.ARGUMENT, () -> u.comesOff(p[0], p[1]));
            Check.fails("P37 place", Easel.ARGUMENT, () -> u.glue(p[0], p[1]));
        }
        Check.same("P5 acts", u.acts(), 1);
    }

    private static void tiredness() {
        Underpaint u = Easel.withStuffs();
        Check.same("P7 at first", u.tired(7, 5), 0);
        Easel.layAt(u, 1, 5, 7, 5);
        Easel.layAt(u, 3, 5, 7, 5);
        u.pass(2);
        Check.same("P7 tired", u.tired(7, 5), 2);
        Check.same("P7 elsewhere", u.tired(6, 5), 0);
    }
}
