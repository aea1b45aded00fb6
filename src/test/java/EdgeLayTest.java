/** Promises 1 to 11 at their bounds: each method is of one sentence of the document, which stands above it. */
final class EdgeLayTest {
    private static final int[] LEAST = {0, 1, 0, 0, 0, 0, 0};
    private static final int[] MOST = {99, 100, 9, 9, 9, 9, 9999};
    private static final String[] NUMBERS = {"tone", "cover", "weight", "lamp", "hold", "fading", "year"};

    private EdgeLayTest() {
    }

    static void run() {
        newPictureIsEmpty();
        stuffKinds();
        stuffNumbers();
        twelveStuffs();
        clashOfNoStuff();
        clashOfOneStuff();
        clashOfFile();
        thicknesses();
        placesOfBoxes();
        boxesWithoutPlaces();
        nineLayers();
        fullPlaceOfABox();
        layInFullFile();
        layOrderOfExceptions();
        placesThatAreNone();
        layersThatAreNone();
        thingsThatAreNone();
        newLayerWhereAnotherWas();
        lightBounds();
        dampBounds();
        passBounds();
        passInFullFile();
        nothingFades();
        fadesRoundedDown();
        fadesToTheMost();
        darkensByOne();
        darkensToTheLeast();
        noLayerDoesNotTire();
        holdAsGreatDoesNotTire();
        dampOfFifteen();
        tiresToTheMost();
        tenthYears();
        varnishNotTopmost();
        yellowToTheMost();
    }

    /** Creates a picture without layers, in the year 1600. */
    private static void newPictureIsEmpty() {
        Underpaint u = new Underpaint();
        int layers = 0;
        int tired = 0;
        for (int i = 0; i < 48; i++) {
            layers += u.layers(i % 8, i / 8);
            tired += u.tired(i % 8, i / 8);
        }
        Check.same("P1 no layers", layers, 0);
        Check.same("P1 not tired", tired, 0);
        Check.same("P1 in 1600", u.year(), 1600);
        Check.same("P1 no acts", u.acts(), 0);
        Check.yes("P1 not signed", u.sign());
    }

    private static int put(Underpaint u, char kind, int[] n) {
        return u.stuff(kind, n[0], n[1], n[2], n[3], n[4], n[5], n[6], true);
    }

    /** Throws if there is no such kind. */
    private static void stuffKinds() {
        Underpaint u = new Underpaint();
        for (int i = 0; i < 9; i++) {
            Check.same("P2 kind " + i, put(u, "sgdpzvfrx".charAt(i), LEAST), i);
        }
        for (char kind : new char[] {'S', 'a', 'e', 'o', 'q', 't', 'u', 'w', 'y', '{', ' ', 0, 's' + 256, 65535}) {
            Edge.refused("P2 no kind " + (int) kind, Easel.ARGUMENT, Underpaint::new, v -> put(v, kind, LEAST));
        }
    }

    /** Throws if a number is out of range. */
    private static void stuffNumbers() {
        for (int i = 0; i < 7; i++) {
            int[] least = MOST.clone();
            least[i] = LEAST[i];
            int[] most = LEAST.clone();
            most[i] = MOST[i];
            int[] less = LEAST.clone();
            less[i] = LEAST[i] - 1;
            int[] more = MOST.clone();
            more[i] = MOST[i] + 1;
            Check.same("P2 least " + NUMBERS[i], put(new Underpaint(), 'p', least), 0);
            Check.same("P2 most " + NUMBERS[i], put(new Underpaint(), 'p', most), 0);
            Edge.refused("P2 less than the least " + NUMBERS[i], Easel.ARGUMENT, Underpaint::new, v -> put(v, 'p', less));
            Edge.refused("P2 more than the most " + NUMBERS[i], Easel.ARGUMENT, Underpaint::new, v -> put(v, 'p', more));
        }
    }

    private static Underpaint withTwelve() {
        Underpaint u = new Underpaint();
        for (int i = 0; i < 12; i++) {
            put(u, 'p', LEAST);
        }
        return u;
    }

    /** At most 12 stuffs: throws if there are 12. */
    private static void twelveStuffs() {
        Underpaint u = Easel.withStuffs();
        put(u, 'p', LEAST);
        put(u, 'p', LEAST);
        Check.same("P2 the twelfth", put(u, 'p', LEAST), 11);
        Edge.refused("P2 a thirteenth", Easel.STATE, EdgeLayTest::withTwelve, v -> put(v, 'p', LEAST));
        Edge.refused("P2 a thirteenth of no kind", Easel.ARGUMENT, EdgeLayTest::withTwelve, v -> put(v, 'q', LEAST));
    }

    /** Throws if there is no such stuff, for either. */
    private static void clashOfNoStuff() {
        Edge.refused("P3 no stuffs", Easel.INDEX, Underpaint::new, v -> v.clash(0, 0));
        Check.yes("P3 the last two", Easel.withStuffs().clash(8, 7));
        for (int bad : new int[] {-1, 9}) {
            Edge.refused("P3 first " + bad, Easel.INDEX, Easel::withStuffs, v -> v.clash(bad, 8));
            Edge.refused("P3 other " + bad, Easel.INDEX, Easel::withStuffs, v -> v.clash(8, bad));
        }
    }

    /** The other one, or the same. Returns true if that was not told. */
    private static void clashOfOneStuff() {
        Underpaint u = Easel.withStuffs();
        Check.yes("P3 the same", u.clash(3, 3));
        Check.no("P3 the same once more", u.clash(3, 3));
        Check.yes("P3 two others", u.clash(2, 4));
        Check.no("P3 told once more", u.clash(2, 4));
        Check.no("P3 the other way round", u.clash(4, 2));
        Check.yes("P3 one of them with itself", u.clash(4, 4));
    }

    /** Those pairs that were told so, as long as the file was empty. */
    private static void clashOfFile() {
        Edge.refused("P3 one act", Easel.UNSUPPORTED, EdgeLayTest::withOneAct, v -> v.clash(0, 1));
        Edge.refused("P3 one act, told before", Easel.UNSUPPORTED, EdgeLayTest::withOneAct, v -> v.clash(2, 3));
        Edge.refused("P3 one act and no stuff", Easel.INDEX, EdgeLayTest::withOneAct, v -> v.clash(0, 9));
        Underpaint u = withOneAct();
        u.takeBack(0);
        Check.yes("P3 the file is empty again", u.clash(0, 1));
        Check.no("P3 what was told stays", u.clash(3, 2));
    }

    private static Underpaint withOneAct() {
        Underpaint u = Easel.withStuffs();
        u.clash(2, 3);
        u.pass(1);
        return u;
    }

    /** A thickness from 1 to 200. */
    private static void thicknesses() {
        Underpaint u = Easel.withStuffs();
        Easel.layAt(u, 3, 1, 0, 0);
        Easel.layAt(u, 3, 200, 0, 0);
        Check.same("P4 the least thickness", u.layerAt(0, 0, 0, 't'), 1);
        Check.same("P4 the most thickness", u.layerAt(0, 0, 1, 't'), 200);
        for (int bad : new int[] {0, 201, -1}) {
            Edge.refused("P4 thickness " + bad, Easel.ARGUMENT, Easel::withStuffs, v -> v.lay(3, bad, 0, 0, 7, 5));
        }
    }

    /** The places x, 0 to 7, and y, 0 to 5. */
    private static void placesOfBoxes() {
        Underpaint u = Easel.withStuffs();
        Check.same("P4 the first place", u.lay(3, 1, 0, 0, 0, 0), 1);
        Check.same("P4 the last place", u.lay(3, 1, 7, 5, 7, 5), 1);
        Check.same("P4 a row", u.lay(3, 1, 0, 5, 7, 5), 8);
        Check.same("P4 a column", u.lay(3, 1, 7, 0, 7, 5), 6);
        Check.same("P4 all places", u.lay(3, 1, 0, 0, 7, 5), 48);
        Check.same("P5 the first place", u.layers(0, 0), 2);
        Check.same("P5 the last place", u.layers(7, 5), 4);
        int[][] boxes = {{-1, 0, 7, 5}, {0, -1, 7, 5}, {0, 0, 8, 5}, {0, 0, 7, 6}, {8, 5, 8, 5}, {7, 6, 7, 6}, {-1, -1, -1, -1}};
        for (int[] b : boxes) {
            Edge.refused("P4 no place in " + b[0] + b[1] + b[2] + b[3], Easel.ARGUMENT, Easel::withStuffs,
                v -> v.lay(3, 1, b[0], b[1], b[2], b[3]));
        }
    }

    /** Throws if the box has no place. */
    private static void boxesWithoutPlaces() {
        Edge.refused("P4 no column", Easel.ARGUMENT, Easel::withStuffs, v -> v.lay(3, 1, 4, 2, 3, 2));
        Edge.refused("P4 no row", Easel.ARGUMENT, Easel::withStuffs, v -> v.lay(3, 1, 4, 2, 4, 1));
        Edge.refused("P4 neither", Easel.ARGUMENT, Easel::withStuffs, v -> v.lay(3, 1, 4, 2, 3, 1));
    }

    /** At most 9 layers. */
    private static void nineLayers() {
        Underpaint u = Easel.withStuffs();
        for (int i = 0; i < 8; i++) {
            Easel.layAt(u, 3, 1, 3, 3);
        }
        Check.same("P4 a ninth layer", Easel.layAt(u, 4, 1, 3, 3), 1);
        Check.same("P5 nine layers", u.layers(3, 3), 9);
        Check.same("P6 the ninth layer", u.layerAt(3, 3, 8, 's'), 4);
        Edge.refused("P4 a tenth layer", Easel.UNSUPPORTED, Edge::nineLayers, v -> Easel.layAt(v, 3, 1, 3, 3));
    }

    /** What would have more than 9 is not laid anywhere. */
    private static void fullPlaceOfABox() {
        Edge.refused("P4 the box's last place is full", Easel.UNSUPPORTED, Edge::nineLayers, v -> v.lay(3, 1, 0, 0, 3, 3));
        Edge.refused("P4 the box's first place is full", Easel.UNSUPPORTED, Edge::nineLayers, v -> v.lay(3, 1, 3, 3, 7, 5));
        Edge.refused("P4 a place within is full", Easel.UNSUPPORTED, Edge::nineLayers, v -> v.lay(3, 1, 0, 0, 7, 5));
        Underpaint u = Edge.nineLayers();
        Check.same("P4 the places beside are not", u.lay(3, 1, 0, 0, 2, 5), 18);
    }

    /** Throws if the file has 40 acts. */
    private static void layInFullFile() {
        Check.same("P4 the fortieth act", Easel.layAll(Edge.almostFullFile(), 3, 1), 48);
        Edge.refused("P4 a forty-first act", Easel.STATE, Edge::fullFile, v -> Easel.layAll(v, 3, 1));
    }

    private static Underpaint fullFileAndPlace() {
        Underpaint u = Edge.nineLayers();
        Easel.fillFile(u);
        return u;
    }

    /** If several exceptions apply, the one that is listed first is thrown. */
    private static void layOrderOfExceptions() {
        Edge.refused("P4 no stuff first", Easel.INDEX, EdgeLayTest::fullFileAndPlace, v -> v.lay(9, 0, 3, 3, 3, 2));
        Edge.refused("P4 no place then", Easel.ARGUMENT, EdgeLayTest::fullFileAndPlace, v -> v.lay(8, 1, 3, 3, 3, 2));
        Edge.refused("P4 thickness then", Easel.ARGUMENT, EdgeLayTest::fullFileAndPlace, v -> v.lay(8, 0, 3, 3, 3, 3));
        Edge.refused("P4 full place then", Easel.UNSUPPORTED, EdgeLayTest::fullFileAndPlace, v -> v.lay(8, 1, 3, 3, 3, 3));
        Edge.refused("P4 full file last", Easel.STATE, EdgeLayTest::fullFileAndPlace, v -> v.lay(8, 1, 2, 2, 2, 2));
    }

    /** Throws if there is no such place. */
    private static void placesThatAreNone() {
        Underpaint u = Edge.nineLayers();
        Check.same("P5 no layers", u.layers(0, 0), 0);
        Check.same("P5 full", u.layers(3, 3), 9);
        Check.same("P7 the last place", u.tired(7, 5), 0);
        for (int[] p : new int[][] {{-1, 3}, {8, 3}, {3, -1}, {3, 6}}) {
            Edge.refused("P5 " + p[0] + " " + p[1], Easel.ARGUMENT, Edge::nineLayers, v -> v.layers(p[0], p[1]));
            Edge.refused("P6 " + p[0] + " " + p[1], Easel.ARGUMENT, Edge::nineLayers, v -> v.layerAt(p[0], p[1], 0, 's'));
            Edge.refused("P7 " + p[0] + " " + p[1], Easel.ARGUMENT, Edge::nineLayers, v -> v.tired(p[0], p[1]));
        }
    }

    /** Throws if there is no such layer. */
    private static void layersThatAreNone() {
        Underpaint u = Edge.nineLayers();
        Check.same("P6 the lowest one", u.layerAt(3, 3, 0, 't'), 20);
        Check.same("P6 the topmost one", u.layerAt(3, 3, 8, 't'), 1);
        Edge.refused("P6 above nine", Easel.NO_ELEMENT, Edge::nineLayers, v -> v.layerAt(3, 3, 9, 't'));
        Edge.refused("P6 below the lowest", Easel.NO_ELEMENT, Edge::nineLayers, v -> v.layerAt(3, 3, -1, 't'));
        Edge.refused("P6 above one", Easel.NO_ELEMENT, Edge::nineLayers, v -> v.layerAt(2, 2, 1, 't'));
        Edge.refused("P6 without layers", Easel.NO_ELEMENT, Edge::nineLayers, v -> v.layerAt(0, 0, 0, 't'));
    }

    /** Throws if there is no such thing, before it throws that there is no such layer. */
    private static void thingsThatAreNone() {
        for (char what : new char[] {'a', 'C', 'S', 'x', 'z', ' ', 0, 's' + 256}) {
            Edge.refused("P6 no thing " + (int) what, Easel.ARGUMENT, Edge::nineLayers, v -> v.layerAt(3, 3, 0, what));
            Edge.refused("P6 no thing of no layer " + (int) what, Easel.ARGUMENT, Edge::nineLayers, v -> v.layerAt(0, 0, 0, what));
        }
    }

    /** The year in which it was laid, a tone, that of the stuff at first, and yellow, 0 at first. */
    private static void newLayerWhereAnotherWas() {
        Underpaint u = Easel.withStuffs();
        Easel.layAt(u, 5, 9, 3, 3);
        Easel.layAt(u, 3, 9, 0, 0);
        u.pass(25);
        Check.same("P6 the varnish's yellow", u.layerAt(3, 3, 0, 'g'), 2);
        Check.same("P6 the paint's tone", u.layerAt(0, 0, 0, 'c'), 99);
        u.scratch(3, 3, 9);
        u.scratch(0, 0, 9);
        Easel.layAt(u, 5, 8, 3, 3);
        Easel.layAt(u, 3, 8, 0, 0);
        Check.same("P6 yellow at first", u.layerAt(3, 3, 0, 'g'), 0);
        Check.same("P6 tone at first", u.layerAt(0, 0, 0, 'c'), 70);
        Check.same("P6 thickness of the new one", u.layerAt(0, 0, 0, 't'), 8);
        Check.same("P6 year of the new one", u.layerAt(0, 0, 0, 'y'), 1625);
    }

    /** The light is from 0 to 9, 5 at first. */
    private static void lightBounds() {
        Underpaint u = new Underpaint();
        Check.same("P8 at first", u.light(0), 5);
        Check.same("P8 the least", u.light(9), 0);
        Check.same("P8 the most", u.light(9), 9);
        Edge.refused("P8 less", Easel.ARGUMENT, Underpaint::new, v -> v.light(-1));
        Edge.refused("P8 more", Easel.ARGUMENT, Underpaint::new, v -> v.light(10));
    }

    /** The damp from 0 to 99, 50 at first. */
    private static void dampBounds() {
        Underpaint u = new Underpaint();
        Check.same("P9 at first", u.damp(0), 50);
        Check.same("P9 the least", u.damp(99), 0);
        Check.same("P9 the most", u.damp(99), 99);
        Edge.refused("P9 less", Easel.ARGUMENT, Underpaint::new, v -> v.damp(-1));
        Edge.refused("P9 more", Easel.ARGUMENT, Underpaint::new, v -> v.damp(100));
    }

    /** How many, 1 to 50. */
    private static void passBounds() {
        Underpaint u = new Underpaint();
        Check.same("P10 the least", u.pass(1), 1601);
        Check.same("P10 the most", u.pass(50), 1651);
        Check.same("P11 then", u.year(), 1651);
        for (int bad : new int[] {0, 51, -1}) {
            Edge.refused("P10 years " + bad, Easel.ARGUMENT, Easel::withStuffs, v -> v.pass(bad));
        }
    }

    /** Throws if the file has 40 acts. */
    private static void passInFullFile() {
        Check.same("P10 the fortieth act", Edge.almostFullFile().pass(1), 1601);
        Edge.refused("P10 a forty-first act", Easel.STATE, Edge::fullFile, v -> v.pass(1));
        Edge.refused("P10 wrong years in a full file", Easel.ARGUMENT, Edge::fullFile, v -> v.pass(0));
        Underpaint u = new Underpaint();
        for (int i = 0; i < 40; i++) {
            u.pass(50);
        }
        Check.same("P11 the last year that can come", u.year(), 3600);
    }

    /** The topmost layer that is no varnish and no dirt fades, if there is one. */
    private static void nothingFades() {
        Underpaint u = new Underpaint();
        Edge.stuffOf(u, 'v', 5, 9, 0);
        Edge.stuffOf(u, 'x', 5, 9, 0);
        Edge.stuffOf(u, 'p', 5, 9, 0);
        Easel.layAt(u, 0, 5, 0, 0);
        Easel.layAt(u, 1, 5, 0, 0);
        Easel.layAt(u, 2, 5, 1, 0);
        Easel.layAt(u, 2, 5, 1, 0);
        Easel.layAt(u, 1, 5, 1, 0);
        u.light(9);
        u.pass(1);
        Check.same("P10 varnish does not fade", u.layerAt(0, 0, 0, 'c'), 50);
        Check.same("P10 dirt does not fade", u.layerAt(0, 0, 1, 'c'), 50);
        Check.same("P10 below dirt it fades", u.layerAt(1, 0, 1, 'c'), 58);
        Check.same("P10 the lower one does not", u.layerAt(1, 0, 0, 'c'), 50);
    }

    /** Its stuff's fading times the light, divided by 10, rounded down. */
    private static void fadesRoundedDown() {
        int[][] cases = {{9, 1, 0}, {1, 9, 0}, {5, 2, 1}, {2, 5, 1}, {9, 2, 1}, {4, 5, 2}, {9, 9, 8}, {9, 0, 0}, {0, 9, 0}};
        for (int[] c : cases) {
            Underpaint u = new Underpaint();
            Edge.stuffOf(u, 'p', 5, c[0], 0);
            Easel.layAt(u, 0, 5, 7, 5);
            u.light(c[1]);
            u.pass(1);
            Check.same("P10 fading " + c[0] + " light " + c[1], u.layerAt(7, 5, 0, 'c'), 50 + c[2]);
            u.pass(2);
            Check.same("P10 rounded each year " + c[0] + " " + c[1], u.layerAt(7, 5, 0, 'c'), 50 + 3 * c[2]);
        }
    }

    /** At most 99. */
    private static void fadesToTheMost() {
        int[] tones = {90, 91, 92, 99};
        int[] due = {98, 99, 99, 99};
        for (int i = 0; i < 4; i++) {
            Underpaint u = new Underpaint();
            u.stuff('p', tones[i], 50, 0, 0, 0, 9, 0, true);
            Easel.layAt(u, 0, 5, 3, 3);
            u.light(9);
            u.pass(1);
            Check.same("P10 from tone " + tones[i], u.layerAt(3, 3, 0, 'c'), due[i]);
        }
    }

    /** For each border of layers whose stuffs do not go together, the lower one's tone is 1 less. */
    private static void darkensByOne() {
        Underpaint u = Easel.withStuffs();
        u.clash(1, 2);
        u.light(0);
        int[] order = {2, 1, 2, 0, 1};
        int[] due = {4, 89, 5, 60, 90};
        for (int stuff : order) {
            Easel.layAt(u, stuff, 5, 3, 3);
        }
        u.pass(1);
        for (int i = 0; i < 5; i++) {
            Check.same("P10 layer " + i + " after one year", u.layerAt(3, 3, i, 'c'), due[i]);
        }
        u.pass(1);
        Check.same("P10 the lowest one after two years", u.layerAt(3, 3, 0, 'c'), 3);
    }

    /** The lower one's tone is 1 less, at least 0. */
    private static void darkensToTheLeast() {
        Underpaint u = new Underpaint();
        u.stuff('p', 1, 50, 0, 0, 0, 0, 0, true);
        u.clash(0, 0);
        Easel.layAt(u, 0, 5, 3, 3);
        Easel.layAt(u, 0, 5, 3, 3);
        Easel.layAt(u, 0, 5, 2, 3);
        u.pass(1);
        Check.same("P10 1 less", u.layerAt(3, 3, 0, 'c'), 0);
        u.pass(1);
        Check.same("P10 at least 0", u.layerAt(3, 3, 0, 'c'), 0);
        Check.same("P10 the upper one stays", u.layerAt(3, 3, 1, 'c'), 1);
        Check.same("P10 one layer has no border", u.layerAt(2, 3, 0, 'c'), 1);
    }

    /** Then the place, if it has a layer, tires. */
    private static void noLayerDoesNotTire() {
        Underpaint u = Easel.withStuffs();
        Easel.layAt(u, 3, 5, 3, 3);
        u.damp(99);
        u.pass(50);
        Check.same("P10 without layers", u.tired(3, 2), 0);
        Check.same("P10 with one", u.tired(3, 3), 50);
    }

    /** By 1 for each layer whose hold is less than that of the one below it. */
    private static void holdAsGreatDoesNotTire() {
        int[][] cases = {{4, 3, 1}, {4, 4, 0}, {4, 5, 0}, {9, 0, 1}};
        for (int[] c : cases) {
            Underpaint u = new Underpaint();
            Edge.stuffOf(u, 'p', c[0], 0, 0);
            Edge.stuffOf(u, 'p', c[1], 0, 0);
            Easel.layAt(u, 0, 5, 3, 3);
            u.pass(1);
            Check.same("P10 a lowest layer alone", u.tired(3, 3), 0);
            Easel.layAt(u, 1, 5, 3, 3);
            u.pass(1);
            Check.same("P10 hold " + c[1] + " on " + c[0], u.tired(3, 3), c[2]);
        }
    }

    /** By 1 more if the damp differs by more than 15 from 50. */
    private static void dampOfFifteen() {
        int[][] cases = {{34, 1}, {35, 0}, {36, 0}, {64, 0}, {65, 0}, {66, 1}, {0, 1}, {99, 1}};
        for (int[] c : cases) {
            Underpaint u = Easel.withStuffs();
            Easel.layAt(u, 3, 5, 3, 3);
            u.damp(c[0]);
            u.pass(1);
            Check.same("P10 damp " + c[0], u.tired(3, 3), c[1]);
        }
    }

    /** Its tiredness is at most 99. */
    private static void tiresToTheMost() {
        Underpaint u = Easel.withStuffs();
        Easel.layAt(u, 1, 5, 3, 3);
        Easel.layAt(u, 3, 5, 3, 3);
        u.damp(99);
        u.pass(49);
        Check.same("P10 2 a year", u.tired(3, 3), 98);
        u.pass(1);
        Check.same("P10 98 and 2", u.tired(3, 3), 99);
        u.pass(1);
        Check.same("P10 99 and 2", u.tired(3, 3), 99);
    }

    /** In each year that is a multiple of 10; all this is of the year that has come. */
    private static void tenthYears() {
        Underpaint u = Easel.withStuffs();
        Easel.layAt(u, 5, 5, 3, 3);
        int[] years = {1, 8, 1, 1, 9, 10};
        int[] due = {0, 0, 1, 1, 2, 3};
        for (int i = 0; i < years.length; i++) {
            int year = u.pass(years[i]);
            Check.same("P10 yellow in " + year, u.layerAt(3, 3, 0, 'g'), due[i]);
        }
    }

    /** A varnish that is topmost has 1 more yellow. */
    private static void varnishNotTopmost() {
        Underpaint u = Easel.withStuffs();
        Easel.layAt(u, 5, 5, 3, 3);
        Easel.layAt(u, 5, 5, 3, 3);
        Easel.layAt(u, 5, 5, 4, 3);
        Easel.layAt(u, 8, 5, 4, 3);
        u.pass(10);
        Check.same("P10 the upper varnish", u.layerAt(3, 3, 1, 'g'), 1);
        Check.same("P10 the lower varnish", u.layerAt(3, 3, 0, 'g'), 0);
        Check.same("P10 varnish below dirt", u.layerAt(4, 3, 0, 'g'), 0);
        Check.same("P10 dirt", u.layerAt(4, 3, 1, 'g'), 0);
    }

    /** At most 99. */
    private static void yellowToTheMost() {
        Underpaint u = Easel.withStuffs();
        Easel.layAt(u, 5, 5, 3, 3);
        for (int i = 0; i < 19; i++) {
            u.pass(50);
        }
        u.pass(30);
        Check.same("P10 yellow 98", u.layerAt(3, 3, 0, 'g'), 98);
        u.pass(10);
        Check.same("P10 yellow 99", u.layerAt(3, 3, 0, 'g'), 99);
        u.pass(10);
        Check.same("P10 yellow at most 99", u.layerAt(3, 3, 0, 'g'), 99);
    }
}
