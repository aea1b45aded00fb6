/** Promises 25 to 37 at their bounds: each method is of one sentence of the document, which stands above it. */
final class EdgeMendTest {
    private static final int[][] NO_PLACES = {{-1, 3}, {8, 3}, {3, -1}, {3, 6}};

    private EdgeMendTest() {
    }

    static void run() {
        depthBounds();
        scratchOfNothing();
        scratchOfWholeLayers();
        scratchOfASupport();
        scratchOfNineLayers();
        scratchInFullFile();
        scratchCounts();
        scratchesThatAreNone();
        aboveTheLayersLeft();
        nothingWasLeft();
        ordersThatAreNotTold();
        orderByOneLayer();
        solventBounds();
        sixSolvents();
        noSolvent();
        signedOnce();
        holdJustLess();
        thicknessJustPaid();
        mostOfMinutes();
        endsAtOtherLayers();
        swellsAtItsHold();
        swellsToTheMost();
        nothingSwells();
        hiddenPlaces();
        testedToTheMost();
        asDeepAsTested();
        justNoGlaze();
        signatureOfOneSwab();
        minuteBounds();
        swabInFullFile();
        swabOrderOfExceptions();
        fillByOne();
        fillOfTwoHundred();
        fillOfTheRim();
        fillOfNineLayers();
        fillArguments();
        fillInFullFile();
        toneBounds();
        toneOfSeveral();
        retouchOfNineLayers();
        retouchArguments();
        retouchInFullFile();
        lampTwoApart();
        noRetouchingOnTop();
        comesOffAtItsHold();
        comesOffOverItsLike();
        glueOfThirty();
        glueInFullFile();
    }

    /** Ground 20, paint 10 and varnish 10 at 3, 3. */
    private static Underpaint stack() {
        Underpaint u = Easel.withStuffs();
        Easel.layAt(u, 1, 20, 3, 3);
        Easel.layAt(u, 3, 10, 3, 3);
        Easel.layAt(u, 5, 10, 3, 3);
        return u;
    }

    /** The depth, 1 to 999; throws if there is no such place, or the depth is out of range. */
    private static void depthBounds() {
        Check.same("P25 the least", stack().scratch(3, 3, 1), 3);
        Check.same("P25 the most", stack().scratch(3, 3, 999), 0);
        for (int bad : new int[] {0, 1000, -1}) {
            Edge.refused("P25 depth " + bad, Easel.ARGUMENT, EdgeMendTest::stack, v -> v.scratch(3, 3, bad));
            Edge.refused("P25 depth of nothing " + bad, Easel.ARGUMENT, EdgeMendTest::stack, v -> v.scratch(0, 0, bad));
        }
        for (int[] p : NO_PLACES) {
            Edge.refused("P25 place", Easel.ARGUMENT, EdgeMendTest::stack, v -> v.scratch(p[0], p[1], 1));
        }
    }

    private static Underpaint scratchedBare() {
        Underpaint u = stack();
        u.scratch(3, 3, 40);
        return u;
    }

    /** Throws if it has no layers. */
    private static void scratchOfNothing() {
        Edge.refused("P25 never had layers", Easel.UNSUPPORTED, EdgeMendTest::stack, v -> v.scratch(0, 0, 1));
        Edge.refused("P25 has no more layers", Easel.UNSUPPORTED, EdgeMendTest::scratchedBare, v -> v.scratch(3, 3, 1));
    }

    /** Whole layers, and of the next one what is left of the depth, as long as some of it stays. */
    private static void scratchOfWholeLayers() {
        int[][] cases = {{9, 3, 1}, {10, 2, 10}, {11, 2, 9}, {19, 2, 1}, {20, 1, 20}, {21, 1, 19}, {39, 1, 1}};
        for (int[] c : cases) {
            Underpaint u = stack();
            Check.same("P25 layers left of depth " + c[0], u.scratch(3, 3, c[0]), c[1]);
            Check.same("P25 thickness left of depth " + c[0], u.layerAt(3, 3, c[1] - 1, 't'), c[2]);
            Check.same("P5 layers", u.layers(3, 3), c[1]);
            if (c[1] > 1) {
                Check.same("P25 what lies below stays, depth " + c[0], u.layerAt(3, 3, 0, 't'), 20);
            }
        }
        Check.same("P25 all of it", stack().scratch(3, 3, 40), 0);
        Check.same("P25 more than all", stack().scratch(3, 3, 41), 0);
    }

    /** A support keeps 1 at least. */
    private static void scratchOfASupport() {
        int[][] cases = {{8, 2}, {9, 1}, {10, 1}, {11, 1}, {999, 1}};
        for (int[] c : cases) {
            Underpaint u = Easel.withStuffs();
            Easel.layAt(u, 1, 5, 3, 3);
            Easel.layAt(u, 0, 10, 3, 3);
            Check.same("P25 support, depth " + c[0], u.scratch(3, 3, c[0]), 2);
            Check.same("P25 support left", u.layerAt(3, 3, 1, 't'), c[1]);
            Check.same("P25 what lies below stays", u.layerAt(3, 3, 0, 't'), 5);
        }
        Underpaint u = Easel.withStuffs();
        Easel.layAt(u, 0, 1, 3, 3);
        Check.same("P25 a support of 1", u.scratch(3, 3, 1), 1);
        Check.same("P25 keeps its 1", u.layerAt(3, 3, 0, 't'), 1);
    }

    private static void scratchOfNineLayers() {
        Underpaint u = Easel.withStuffs();
        for (int i = 0; i < 9; i++) {
            Easel.layAt(u, 3, 200, 3, 3);
        }
        Check.same("P25 999 of 1800", u.scratch(3, 3, 999), 5);
        Check.same("P25 1 of the fifth", u.layerAt(3, 3, 4, 't'), 1);
    }

    /** Throws if the file has 40 acts. */
    private static void scratchInFullFile() {
        Check.same("P25 the fortieth act", Edge.almostFullFile().scratch(3, 3, 1), 2);
        Edge.refused("P25 a forty-first act", Easel.STATE, Edge::fullFile, v -> v.scratch(3, 3, 1));
        Edge.refused("P25 a wrong depth in a full file", Easel.ARGUMENT, Edge::fullFile, v -> v.scratch(3, 3, 0));
        Underpaint bare = stack();
        Easel.fillFile(bare);
        Check.fails("P25 no layers, and a full file", Easel.UNSUPPORTED, () -> bare.scratch(0, 0, 1));
    }

    /** Returns how many scratches there are. */
    private static void scratchCounts() {
        Underpaint u = stack();
        Check.same("P26 none", u.scratches(), 0);
        u.scratch(3, 3, 1);
        Check.same("P26 one", u.scratches(), 1);
        Check.fails("P25 refused", Easel.UNSUPPORTED, () -> u.scratch(0, 0, 1));
        Check.same("P26 what is refused does not count", u.scratches(), 1);
        u.takeBack(3);
        Check.same("P26 taken back", u.scratches(), 0);
    }

    /** Throws if there is no such scratch; if there is no such layer. */
    private static void scratchesThatAreNone() {
        Edge.refused("P27 no scratches", Easel.INDEX, EdgeMendTest::stack, v -> v.liesOver(0, 0));
        Edge.refused("P28 no scratches", Easel.INDEX, EdgeMendTest::stack, v -> v.later(0, 0));
        for (int bad : new int[] {-1, 1}) {
            Edge.refused("P27 scratch " + bad, Easel.INDEX, EdgeMendTest::scratchedOnce, v -> v.liesOver(bad, 9));
            Edge.refused("P28 scratch " + bad, Easel.INDEX, EdgeMendTest::scratchedOnce, v -> v.later(bad, 0));
            Edge.refused("P28 other " + bad, Easel.INDEX, EdgeMendTest::scratchedOnce, v -> v.later(0, bad));
        }
        for (int bad : new int[] {-1, 2}) {
            Edge.refused("P27 layer " + bad, Easel.NO_ELEMENT, EdgeMendTest::scratchedOnce, v -> v.liesOver(0, bad));
        }
        Edge.refused("P27 no layers", Easel.NO_ELEMENT, EdgeMendTest::scratchedBare, v -> v.liesOver(0, 0));
    }

    private static Underpaint scratchedOnce() {
        Underpaint u = stack();
        u.scratch(3, 3, 10);
        return u;
    }

    /** A layer lies over a scratch, if it is at a place that was scratched, above the layers left. */
    private static void aboveTheLayersLeft() {
        Underpaint u = scratchedOnce();
        Easel.layAt(u, 5, 1, 3, 3);
        Easel.layAt(u, 8, 1, 3, 3);
        Check.no("P27 the lowest one", u.liesOver(0, 0));
        Check.no("P27 the uppermost one left", u.liesOver(0, 1));
        Check.yes("P27 the first one above", u.liesOver(0, 2));
        Check.yes("P27 the topmost one", u.liesOver(0, 3));
    }

    /** The same, where no layers were left. */
    private static void nothingWasLeft() {
        Underpaint u = scratchedBare();
        Easel.layAt(u, 1, 1, 3, 3);
        Check.yes("P27 above nothing", u.liesOver(0, 0));
    }

    /** Throws if they are not at one place, or their order is not told. */
    private static void ordersThatAreNotTold() {
        Edge.refused("P28 one and the same", Easel.UNSUPPORTED, EdgeMendTest::scratchedOnce, v -> v.later(0, 0));
        Edge.refused("P28 as many layers left", Easel.UNSUPPORTED, () -> scratchedTwice(10, 1), v -> v.later(0, 1));
        Edge.refused("P28 no layer above the deeper one", Easel.UNSUPPORTED, () -> scratchedTwice(10, 10), v -> v.later(0, 1));
        Edge.refused("P28 other places", Easel.UNSUPPORTED, EdgeMendTest::scratchedApart, v -> v.later(0, 1));
        Edge.refused("P28 other places, the other way", Easel.UNSUPPORTED, EdgeMendTest::scratchedApart, v -> v.later(1, 0));
    }

    private static Underpaint scratchedTwice(int depth, int then) {
        Underpaint u = stack();
        u.scratch(3, 3, depth);
        u.scratch(3, 3, then);
        return u;
    }

    private static Underpaint scratchedApart() {
        Underpaint u = stack();
        Easel.layAll(u, 8, 5);
        u.scratch(3, 3, 5);
        u.scratch(2, 3, 4);
        Easel.layAll(u, 8, 5);
        return u;
    }

    /** Some layer of it lies over the one and not over the other: this other one is the later. */
    private static void orderByOneLayer() {
        Underpaint u = scratchedOnce();
        Easel.layAt(u, 5, 5, 3, 3);
        u.scratch(3, 3, 1);
        Check.same("P28 over the first alone", u.later(0, 1), 1);
        Check.same("P28 told the other way", u.later(1, 0), 1);
        Underpaint deep = scratchedTwice(10, 20);
        Check.same("P25 one left", deep.layers(3, 3), 1);
        Check.fails("P28 not told yet", Easel.UNSUPPORTED, () -> deep.later(0, 1));
        Easel.layAt(deep, 5, 5, 3, 3);
        Check.same("P28 by the layers, over the second alone", deep.later(0, 1), 0);
    }

    /** A strength from 1 to 9 and a reach from 1 to 20. */
    private static void solventBounds() {
        Underpaint u = new Underpaint();
        Check.same("P29 the least", u.solvent(1, 1), 0);
        Check.same("P29 the most", u.solvent(9, 20), 1);
        for (int bad : new int[] {0, 10}) {
            Edge.refused("P29 strength " + bad, Easel.ARGUMENT, Underpaint::new, v -> v.solvent(bad, 1));
        }
        for (int bad : new int[] {0, 21}) {
            Edge.refused("P29 reach " + bad, Easel.ARGUMENT, Underpaint::new, v -> v.solvent(1, bad));
        }
    }

    private static Underpaint withSixSolvents() {
        Underpaint u = new Underpaint();
        for (int i = 0; i < 6; i++) {
            Check.same("P29 number", u.solvent(1, 1), i);
        }
        return u;
    }

    /** At most 6 solvents. */
    private static void sixSolvents() {
        Edge.refused("P29 a seventh", Easel.STATE, EdgeMendTest::withSixSolvents, v -> v.solvent(1, 1));
        Edge.refused("P29 a wrong seventh", Easel.ARGUMENT, EdgeMendTest::withSixSolvents, v -> v.solvent(0, 1));
        Check.same("P30 the sixth, 0 at first", withSixSolvents().tested(5), 0);
    }

    /** Throws if there is no such solvent. */
    private static void noSolvent() {
        Edge.refused("P30 none at all", Easel.INDEX, Underpaint::new, v -> v.tested(0));
        Edge.refused("P32 none at all", Easel.INDEX, Underpaint::new, v -> v.swab(0, 0, 0, 1));
        for (int bad : new int[] {-1, 6}) {
            Edge.refused("P30 solvent " + bad, Easel.INDEX, EdgeMendTest::withSixSolvents, v -> v.tested(bad));
            Edge.refused("P32 solvent " + bad, Easel.INDEX, EdgeMendTest::withSixSolvents, v -> v.swab(bad, 0, 0, 1));
        }
    }

    /** Returns true if it was not signed. */
    private static void signedOnce() {
        Underpaint u = new Underpaint();
        Check.yes("P31 not signed", u.sign());
        Check.no("P31 signed", u.sign());
        Check.no("P31 signed still", u.sign());
    }

    /** One stuff, laid all over with a thickness, and a solvent. */
    private static Underpaint covered(char kind, int hold, int thickness, int strength, int reach) {
        Underpaint u = new Underpaint();
        Edge.stuffOf(u, kind, hold, 0, 0);
        Easel.layAll(u, 0, thickness);
        u.solvent(strength, reach);
        return u;
    }

    /** A layer that is varnish, dirt, fill, retouching or glaze, and whose hold is less than the strength. */
    private static void holdJustLess() {
        for (char kind : "vxfrz".toCharArray()) {
            Check.same("P32 hold 1 less " + kind, covered(kind, 4, 10, 5, 10).swab(0, 0, 0, 1), 10);
            Check.same("P32 hold as great " + kind, covered(kind, 5, 10, 5, 10).swab(0, 0, 0, 1), 0);
            Check.same("P32 hold 1 more " + kind, covered(kind, 6, 10, 5, 10).swab(0, 0, 0, 1), 0);
            Check.same("P32 hold 0, strength 1 " + kind, covered(kind, 0, 10, 1, 10).swab(0, 0, 0, 1), 10);
            Check.same("P32 hold 9, strength 9 " + kind, covered(kind, 9, 10, 9, 10).swab(0, 0, 0, 1), 0);
        }
        for (char kind : "sgdp".toCharArray()) {
            Check.same("P32 not of these kinds " + kind, covered(kind, 0, 10, 9, 20).swab(0, 0, 0, 60), 0);
        }
    }

    /** Costs its thickness of the minutes times the reach; if less is left, it is thinner by that, and it ends. */
    private static void thicknessJustPaid() {
        int[][] cases = {{4, 8, 2, 2}, {5, 10, 1, 10}, {6, 12, 1, 8}, {9, 18, 1, 2}, {10, 20, 0, 0}, {11, 20, 0, 0}};
        for (int[] c : cases) {
            Underpaint u = covered('v', 0, 10, 9, 2);
            Easel.layAll(u, 0, 10);
            Check.same("P32 depth of " + c[0] + " minutes", u.swab(0, 0, 0, c[0]), c[1]);
            Check.same("P32 layers after " + c[0] + " minutes", u.layers(0, 0), c[2]);
            if (c[2] > 1) {
                Check.same("P32 what lies below stays", u.layerAt(0, 0, 0, 't'), 10);
            }
            if (c[2] > 0) {
                Check.same("P32 left after " + c[0] + " minutes", u.layerAt(0, 0, c[2] - 1, 't'), c[3]);
            }
        }
    }

    /** The minutes, 1 to 60, times a reach of up to 20. */
    private static void mostOfMinutes() {
        Underpaint u = Easel.withStuffs();
        u.solvent(9, 20);
        for (int i = 0; i < 7; i++) {
            Easel.layAt(u, 5, 200, 0, 0);
        }
        Check.same("P32 1200 of 1400", u.swab(0, 0, 0, 60), 1200);
        Check.same("P32 six layers", u.layers(0, 0), 1);
        Check.same("P30 1200", u.tested(0), 1200);
        Check.same("P32 the rest", u.swab(0, 0, 0, 60), 200);
        Check.same("P32 no layers", u.swab(0, 0, 0, 60), 0);
    }

    /** At any other layer it ends. */
    private static void endsAtOtherLayers() {
        for (int other : new int[] {0, 1, 2, 3}) {
            Underpaint u = Easel.withStuffs();
            u.solvent(9, 20);
            Easel.layAt(u, 5, 10, 0, 0);
            Easel.layAt(u, other, 1, 0, 0);
            Easel.layAt(u, 8, 10, 0, 0);
            Check.same("P32 down to stuff " + other, u.swab(0, 0, 0, 60), 10);
            Check.same("P32 layers", u.layers(0, 0), 2);
            Check.same("P32 all of it stays", u.layerAt(0, 0, 1, 't'), 1);
            Check.same("P32 not past it", u.swab(0, 0, 0, 60), 0);
        }
    }

    /** Paint or glaze that is topmost then, with a hold of at most the strength, swells by the minutes. */
    private static void swellsAtItsHold() {
        for (char kind : "pz".toCharArray()) {
            int[] due = {7, 0};
            for (int i = 0; i < 2; i++) {
                Underpaint u = covered(kind, 5 + i, 200, 5, 1);
                u.swab(0, 0, 0, 7);
                Check.same("P32 " + kind + " of hold " + (5 + i) + " and strength 5", u.tired(0, 0), due[i]);
            }
        }
        Underpaint some = covered('z', 4, 8, 5, 1);
        some.swab(0, 0, 0, 7);
        Check.same("P32 glaze of 1 that is left swells", some.tired(0, 0), 7);
        Underpaint none = covered('z', 4, 7, 5, 1);
        none.swab(0, 0, 0, 7);
        Check.same("P32 no glaze is left", none.tired(0, 0), 0);
        for (char kind : "sgdvfrx".toCharArray()) {
            Underpaint u = covered(kind, 5, 200, 5, 1);
            u.swab(0, 0, 0, 7);
            Check.same("P32 does not swell " + kind, u.tired(0, 0), 0);
        }
    }

    /** Its place tires by that, at most to 99. */
    private static void swellsToTheMost() {
        Underpaint u = covered('p', 0, 10, 1, 1);
        int[] minutes = {60, 38, 2, 60};
        int[] due = {60, 98, 99, 99};
        for (int i = 0; i < 4; i++) {
            u.swab(0, 7, 5, minutes[i]);
            Check.same("P32 tired by " + minutes[i], u.tired(7, 5), due[i]);
        }
    }

    private static void nothingSwells() {
        Underpaint u = new Underpaint();
        u.solvent(9, 20);
        Check.same("P32 no layers", u.swab(0, 0, 0, 60), 0);
        Check.same("P32 not tired", u.tired(0, 0), 0);
        Check.same("P32 an act all the same", u.acts(), 1);
        Check.same("P30 tested to 0", u.tested(0), 0);
    }

    /** The place is hidden if it is at the border of the picture. */
    private static void hiddenPlaces() {
        int[][] corners = {{1, 1}, {6, 1}, {1, 4}, {6, 4}};
        for (int[] c : corners) {
            Edge.refused("P32 not hidden " + c[0] + " " + c[1], Easel.UNSUPPORTED, () -> covered('v', 0, 10, 9, 1),
                v -> v.swab(0, c[0], c[1], 1));
            int besideX = c[0] == 1 ? 0 : 7;
            int besideY = c[1] == 1 ? 0 : 5;
            int[][] hidden = {{besideX, c[1]}, {c[0], besideY}, {besideX, besideY}};
            for (int[] h : hidden) {
                Underpaint u = covered('v', 0, 10, 9, 1);
                Check.same("P32 hidden " + h[0] + " " + h[1], u.swab(0, h[0], h[1], 1), 1);
                Check.same("P30 hidden " + h[0] + " " + h[1], u.tested(0), 1);
            }
        }
    }

    /** The solvent is tested to its depth, if that is more than before. */
    private static void testedToTheMost() {
        Underpaint u = covered('v', 0, 200, 9, 1);
        int[] minutes = {5, 4, 5, 6, 1};
        int[] due = {5, 5, 5, 6, 6};
        for (int i = 0; i < 5; i++) {
            u.swab(0, 0, 0, minutes[i]);
            Check.same("P30 swab " + i, u.tested(0), due[i]);
        }
    }

    private static Underpaint testedToFive() {
        Underpaint u = covered('v', 0, 200, 9, 1);
        u.swab(0, 0, 0, 5);
        return u;
    }

    /** Elsewhere it is not done if it would go deeper than the solvent was tested. */
    private static void asDeepAsTested() {
        Check.same("P32 less deep", testedToFive().swab(0, 3, 3, 4), 4);
        Check.same("P32 as deep", testedToFive().swab(0, 3, 3, 5), 5);
        Edge.refused("P32 1 deeper", Easel.UNSUPPORTED, EdgeMendTest::testedToFive, v -> v.swab(0, 3, 3, 6));
        Edge.refused("P32 not tested", Easel.UNSUPPORTED, () -> covered('v', 0, 200, 9, 1), v -> v.swab(0, 3, 3, 1));
        Check.same("P32 depth 0 without a test", covered('p', 0, 200, 9, 1).swab(0, 3, 3, 60), 0);
        Underpaint u = testedToFive();
        u.swab(0, 3, 3, 5);
        Check.same("P30 elsewhere is no test", u.tested(0), 5);
        u.solvent(9, 1);
        Check.fails("P32 of another solvent", Easel.UNSUPPORTED, () -> u.swab(1, 3, 3, 1));
    }

    /** Glaze of 20 below varnish of 10, and solvents of reach 10 and 1 that were tested on both. */
    private static Underpaint glazed() {
        Underpaint u = Easel.withStuffs();
        Easel.layAll(u, 4, 20);
        Easel.layAll(u, 5, 10);
        u.solvent(3, 10);
        u.solvent(3, 1);
        u.swab(0, 0, 0, 60);
        u.swab(1, 0, 1, 60);
        return u;
    }

    /** Or take off some glaze, also a part of its thickness. */
    private static void justNoGlaze() {
        Check.same("P32 just to the glaze", glazed().swab(0, 3, 3, 1), 10);
        Check.same("P32 just to the glaze, by 1", glazed().swab(1, 3, 3, 10), 10);
        Edge.refused("P32 1 of the glaze", Easel.UNSUPPORTED, EdgeMendTest::glazed, v -> v.swab(1, 3, 3, 11));
        Edge.refused("P32 all the glaze", Easel.UNSUPPORTED, EdgeMendTest::glazed, v -> v.swab(0, 3, 3, 3));
        Underpaint u = glazed();
        u.sign();
        Check.same("P32 1 of the glaze, signed", u.swab(1, 3, 3, 11), 11);
        Check.same("P32 19 of it", u.layerAt(3, 3, 0, 't'), 19);
        Underpaint hidden = glazed();
        Check.same("P32 glaze at a hidden place", hidden.swab(1, 0, 2, 11), 11);
        Underpaint gone = glazed();
        Easel.layAt(gone, 4, 5, 3, 3);
        gone.scratch(3, 3, 5);
        Check.same("P32 glaze that came off before", gone.swab(0, 3, 3, 1), 10);
        Underpaint weak = glazed();
        weak.solvent(2, 10);
        weak.swab(2, 0, 2, 1);
        Check.same("P32 glaze that it does not take", weak.swab(2, 3, 3, 60), 10);
    }

    /** Unless it is signed; a signature is for the next swab elsewhere that is done. */
    private static void signatureOfOneSwab() {
        Underpaint u = testedToFive();
        u.sign();
        u.swab(0, 0, 1, 1);
        Check.no("P31 not used at a hidden place", u.sign());
        Check.fails("P32 wrong minutes", Easel.ARGUMENT, () -> u.swab(0, 3, 3, 61));
        Check.no("P31 not used by what is not done", u.sign());
        Check.same("P32 deeper, signed", u.swab(0, 3, 3, 60), 60);
        Check.same("P30 signed is no test", u.tested(0), 5);
        Check.fails("P32 the one after it", Easel.UNSUPPORTED, () -> u.swab(0, 3, 3, 6));
        Check.yes("P31 used", u.sign());
        Check.same("P32 signed without need", u.swab(0, 3, 3, 5), 5);
        Check.yes("P31 used by the next one", u.sign());
    }

    /** The minutes, 1 to 60; throws if there is no such place. */
    private static void minuteBounds() {
        Check.same("P32 the least", covered('v', 0, 200, 9, 1).swab(0, 0, 0, 1), 1);
        Check.same("P32 the most", covered('v', 0, 200, 9, 1).swab(0, 0, 0, 60), 60);
        for (int bad : new int[] {0, 61, -1}) {
            Edge.refused("P32 minutes " + bad, Easel.ARGUMENT, EdgeMendTest::testedToFive, v -> v.swab(0, 0, 0, bad));
        }
        for (int[] p : NO_PLACES) {
            Edge.refused("P32 place", Easel.ARGUMENT, EdgeMendTest::testedToFive, v -> v.swab(0, p[0], p[1], 1));
        }
    }

    /** Throws if the file has 40 acts. */
    private static void swabInFullFile() {
        Check.same("P32 the fortieth act", Edge.almostFullFile().swab(0, 0, 0, 1), 0);
        Edge.refused("P32 a forty-first act", Easel.STATE, Edge::fullFile, v -> v.swab(0, 0, 0, 1));
        Underpaint u = glazed();
        Easel.fillFile(u);
        u.sign();
        Check.fails("P32 a forty-first act, signed", Easel.STATE, () -> u.swab(0, 3, 3, 3));
        Check.no("P31 the signature stays", u.sign());
        Underpaint test = covered('v', 0, 10, 9, 1);
        Easel.fillFile(test);
        Check.fails("P32 a forty-first act, a test", Easel.STATE, () -> test.swab(0, 0, 0, 5));
        Check.same("P30 no test", test.tested(0), 0);
    }

    private static Underpaint untestedInFullFile() {
        Underpaint u = covered('v', 0, 10, 9, 1);
        Easel.fillFile(u);
        return u;
    }

    /** If several exceptions apply, the one that is listed first is thrown. */
    private static void swabOrderOfExceptions() {
        Edge.refused("P32 no solvent first", Easel.INDEX, EdgeMendTest::untestedInFullFile, v -> v.swab(1, 8, 3, 0));
        Edge.refused("P32 no place then", Easel.ARGUMENT, EdgeMendTest::untestedInFullFile, v -> v.swab(0, 8, 3, 1));
        Edge.refused("P32 minutes then", Easel.ARGUMENT, EdgeMendTest::untestedInFullFile, v -> v.swab(0, 3, 3, 0));
        Edge.refused("P32 not done then", Easel.UNSUPPORTED, EdgeMendTest::untestedInFullFile, v -> v.swab(0, 3, 3, 1));
        Edge.refused("P32 full file last", Easel.STATE, EdgeMendTest::untestedInFullFile, v -> v.swab(0, 0, 0, 1));
    }

    /** Ground all over, of 100 at 3, 3 and of another thickness at 4, 3. */
    private static Underpaint step(int thickness) {
        Underpaint u = Easel.withStuffs();
        Easel.layAt(u, 1, 100, 3, 3);
        Easel.layAt(u, 1, thickness, 4, 3);
        return u;
    }

    /** If it is lower: throws if the place is not lower. */
    private static void fillByOne() {
        Underpaint u = step(101);
        Check.same("P33 lower by 1", u.fill(6, 3, 3), 1);
        Check.same("P33 a fill of 1", u.layerAt(3, 3, 1, 't'), 1);
        Edge.refused("P33 as high", Easel.UNSUPPORTED, () -> step(100), v -> v.fill(6, 3, 3));
        Edge.refused("P33 higher by 1", Easel.UNSUPPORTED, () -> step(99), v -> v.fill(6, 3, 3));
        Edge.refused("P33 nothing about it", Easel.UNSUPPORTED, () -> step(100), v -> v.fill(6, 0, 0));
    }

    private static Underpaint tower(int thickness) {
        Underpaint u = Easel.withStuffs();
        Easel.layAt(u, 1, thickness, 3, 3);
        Easel.layAt(u, 1, 100, 3, 3);
        return u;
    }

    /** At most 200 more. */
    private static void fillOfTwoHundred() {
        int[][] cases = {{99, 199}, {100, 200}, {101, 200}, {200, 200}};
        for (int[] c : cases) {
            Check.same("P33 lower by " + (c[0] + 100), tower(c[0]).fill(6, 3, 4), c[1]);
        }
        Underpaint u = tower(101);
        u.fill(6, 2, 3);
        Check.same("P33 the rest of 201", u.fill(6, 2, 3), 1);
        Check.fails("P33 nothing is left", Easel.UNSUPPORTED, () -> u.fill(6, 2, 3));
    }

    /** Of the places beside, above and below. */
    private static void fillOfTheRim() {
        int[][] corners = {{0, 0}, {7, 0}, {0, 5}, {7, 5}};
        for (int[] c : corners) {
            Underpaint u = Easel.withStuffs();
            int x = c[0] == 0 ? 1 : 6;
            int y = c[1] == 0 ? 1 : 4;
            Easel.layAt(u, 1, 50, x, y);
            Check.fails("P33 aslant of a corner", Easel.UNSUPPORTED, () -> u.fill(6, c[0], c[1]));
            Easel.layAt(u, 1, 20, x, c[1]);
            Easel.layAt(u, 1, 30, c[0], y);
            Check.same("P33 a corner, to the greatest", u.fill(6, c[0], c[1]), 30);
        }
        Underpaint u = Easel.withStuffs();
        Easel.layAt(u, 1, 50, 7, 2);
        Check.fails("P33 the row before's last is not beside", Easel.UNSUPPORTED, () -> u.fill(6, 0, 3));
    }

    private static Underpaint lowPlace(int layers) {
        Underpaint u = Easel.withStuffs();
        for (int i = 0; i < layers; i++) {
            Easel.layAt(u, 3, 1, 3, 3);
        }
        Easel.layAt(u, 1, 50, 3, 4);
        return u;
    }

    /** Throws if the place has 9 layers. */
    private static void fillOfNineLayers() {
        Check.same("P33 on eight", lowPlace(8).fill(6, 3, 3), 42);
        Edge.refused("P33 on nine", Easel.UNSUPPORTED, () -> lowPlace(9), v -> v.fill(6, 3, 3));
    }

    /** Throws if there is no such stuff; if it is not of the kind f, or there is no such place. */
    private static void fillArguments() {
        for (int bad : new int[] {-1, 9}) {
            Edge.refused("P33 stuff " + bad, Easel.INDEX, () -> step(101), v -> v.fill(bad, 3, 3));
            Edge.refused("P33 stuff first " + bad, Easel.INDEX, () -> step(101), v -> v.fill(bad, 8, 3));
        }
        for (int other : new int[] {0, 1, 2, 3, 4, 5, 7, 8}) {
            Edge.refused("P33 no fill " + other, Easel.ARGUMENT, () -> step(101), v -> v.fill(other, 3, 3));
            Edge.refused("P33 no fill, not lower " + other, Easel.ARGUMENT, () -> step(100), v -> v.fill(other, 3, 3));
        }
        for (int[] p : NO_PLACES) {
            Edge.refused("P33 place", Easel.ARGUMENT, () -> step(101), v -> v.fill(6, p[0], p[1]));
        }
    }

    /** Throws if the file has 40 acts. */
    private static void fillInFullFile() {
        Check.same("P33 the fortieth act", Edge.almostFullFile().fill(6, 3, 4), 40);
        Edge.refused("P33 a forty-first act", Easel.STATE, Edge::fullFile, v -> v.fill(6, 3, 4));
        Edge.refused("P33 not lower, in a full file", Easel.UNSUPPORTED, Edge::fullFile, v -> v.fill(6, 3, 3));
    }

    /** The tone that is wanted, 0 to 99. */
    private static void toneBounds() {
        // A quarter of 100 is of the retouching, the rest is 50: from 37 to 62.
        Check.same("P34 the least", Easel.withStuffs().retouch(7, 3, 3, 0), 37);
        Check.same("P34 the most", Easel.withStuffs().retouch(7, 3, 3, 99), 62);
        for (int bad : new int[] {-1, 100}) {
            Edge.refused("P34 tone " + bad, Easel.ARGUMENT, Easel::withStuffs, v -> v.retouch(7, 3, 3, bad));
        }
    }

    /** Nearest to one that is told, of several the lowest tone; laid with a thickness of 5. */
    private static void toneOfSeveral() {
        int[][] cases = {{0, 0}, {37, 0}, {38, 2}, {39, 6}, {50, 50}, {61, 94}, {62, 98}, {63, 98}, {99, 98}};
        for (int[] c : cases) {
            Underpaint u = Easel.withStuffs();
            u.retouch(7, 3, 3, c[0]);
            Check.same("P34 tone for " + c[0], u.layerAt(3, 3, 0, 'c'), c[1]);
            Check.same("P34 thickness", u.layerAt(3, 3, 0, 't'), 5);
        }
        Underpaint thin = new Underpaint();
        thin.stuff('r', 50, 3, 0, 0, 0, 0, 0, true);
        Underpaint light = new Underpaint();
        light.stuff('r', 50, 100, 0, 0, 0, 0, 0, true);
        light.stuff('s', 99, 100, 0, 0, 0, 0, 0, true);
        Easel.layAt(light, 1, 20, 3, 3);
        Check.same("P34 99 over 99", light.retouch(0, 3, 3, 99), 99);
        Check.same("P34 tone 99", light.layerAt(3, 3, 1, 'c'), 99);
        Check.same("P34 covers nothing", thin.retouch(0, 3, 3, 99), 50);
        Check.same("P34 the lowest tone of all", thin.layerAt(3, 3, 0, 'c'), 0);
    }

    /** Throws if the place has 9 layers. */
    private static void retouchOfNineLayers() {
        Underpaint eight = lowPlace(8);
        eight.retouch(7, 3, 3, 0);
        Check.same("P34 on eight", eight.layers(3, 3), 9);
        Edge.refused("P34 on nine", Easel.UNSUPPORTED, () -> lowPlace(9), v -> v.retouch(7, 3, 3, 0));
        Edge.refused("P34 on nine, wrong tone", Easel.ARGUMENT, () -> lowPlace(9), v -> v.retouch(7, 3, 3, 100));
    }

    /** Throws if there is no such stuff; if it is not of the kind r, there is no such place. */
    private static void retouchArguments() {
        for (int bad : new int[] {-1, 9}) {
            Edge.refused("P34 stuff " + bad, Easel.INDEX, Easel::withStuffs, v -> v.retouch(bad, 3, 3, 0));
            Edge.refused("P34 stuff first " + bad, Easel.INDEX, Easel::withStuffs, v -> v.retouch(bad, 8, 3, 100));
        }
        for (int other : new int[] {0, 1, 2, 3, 4, 5, 6, 8}) {
            Edge.refused("P34 no retouching " + other, Easel.ARGUMENT, Easel::withStuffs, v -> v.retouch(other, 3, 3, 0));
        }
        for (int[] p : NO_PLACES) {
            Edge.refused("P34 place", Easel.ARGUMENT, Easel::withStuffs, v -> v.retouch(7, p[0], p[1], 0));
        }
    }

    /** Throws if the file has 40 acts. */
    private static void retouchInFullFile() {
        Check.same("P34 the fortieth act", Edge.almostFullFile().retouch(7, 7, 5, 90), 90);
        Edge.refused("P34 a forty-first act", Easel.STATE, Edge::fullFile, v -> v.retouch(7, 7, 5, 90));
        Underpaint u = lowPlace(9);
        Easel.fillFile(u);
        Check.fails("P34 nine layers in a full file", Easel.UNSUPPORTED, () -> u.retouch(7, 3, 3, 0));
    }

    /** Retouching over a layer as told at 2, 3, the same over a ground that must not count at 3, 3; alone at 4, 3. */
    private static Underpaint retouched(char below, int holdBelow, int lampBelow) {
        Underpaint u = new Underpaint();
        Edge.stuffOf(u, 'r', 3, 0, 5);
        Edge.stuffOf(u, below, holdBelow, 0, lampBelow);
        Edge.stuffOf(u, 'g', 9, 0, 5);
        Easel.layAt(u, 2, 10, 3, 3);
        u.lay(1, 10, 2, 3, 3, 3);
        u.lay(0, 5, 2, 3, 4, 3);
        return u;
    }

    /** If its lamp differs by 2 or more from that of the layer below; also without a layer below it. */
    private static void lampTwoApart() {
        int[] lamps = {0, 3, 4, 5, 6, 7, 9};
        int[] due = {1, 1, 0, 0, 0, 1, 1};
        for (int i = 0; i < lamps.length; i++) {
            Check.same("P35 lamp 5 over " + lamps[i], retouched('p', 0, lamps[i]).isTold(2, 3) ? 1 : 0, due[i]);
            Check.same("P35 lamp 5 over " + lamps[i] + " over 5", retouched('p', 0, lamps[i]).isTold(3, 3) ? 1 : 0, due[i]);
        }
        Check.yes("P35 nothing below", retouched('p', 0, 5).isTold(4, 3));
    }

    /** Throws if the topmost layer is no retouching. */
    private static void noRetouchingOnTop() {
        Edge.refused("P35 no layers", Easel.NO_ELEMENT, Easel::withStuffs, v -> v.isTold(0, 0));
        Edge.refused("P36 no layers", Easel.NO_ELEMENT, Easel::withStuffs, v -> v.comesOff(0, 0));
        Edge.refused("P35 came off", Easel.NO_ELEMENT, EdgeMendTest::cameOff, v -> v.isTold(4, 3));
        Edge.refused("P36 came off", Easel.NO_ELEMENT, EdgeMendTest::cameOff, v -> v.comesOff(4, 3));
        for (char above : "sgdpzvfx".toCharArray()) {
            Edge.refused("P35 below " + above, Easel.NO_ELEMENT, () -> retouchedBelow(above), v -> v.isTold(3, 3));
            Edge.refused("P36 below " + above, Easel.NO_ELEMENT, () -> retouchedBelow(above), v -> v.comesOff(3, 3));
        }
        for (int[] p : NO_PLACES) {
            Edge.refused("P35 place", Easel.ARGUMENT, () -> retouched('p', 0, 0), v -> v.isTold(p[0], p[1]));
            Edge.refused("P36 place", Easel.ARGUMENT, () -> retouched('p', 0, 0), v -> v.comesOff(p[0], p[1]));
        }
    }

    private static Underpaint cameOff() {
        Underpaint u = retouched('p', 0, 0);
        u.solvent(9, 20);
        u.scratch(4, 3, 5);
        return u;
    }

    private static Underpaint retouchedBelow(char above) {
        Underpaint u = retouched(above, 0, 0);
        Easel.layAt(u, 1, 1, 3, 3);
        return u;
    }

    /** It comes off if some solvent takes it; -1 if it does not; of several the lowest one. */
    private static void comesOffAtItsHold() {
        Underpaint u = retouched('g', 0, 0);
        int[] strengths = {2, 3, 4, 5, 9};
        int[] due = {-1, -1, 2, 2, 2};
        Check.same("P36 no solvents", u.comesOff(3, 3), -1);
        for (int i = 0; i < 5; i++) {
            u.solvent(strengths[i], 1);
            Check.same("P36 hold 3, strength " + strengths[i], u.comesOff(3, 3), due[i]);
            Check.same("P36 nothing below, strength " + strengths[i], u.comesOff(4, 3), due[i]);
        }
    }

    /** And does not take the layer below it, and this, being paint or glaze, does not swell. */
    private static void comesOffOverItsLike() {
        for (char kind : "sgdpzvfrx".toCharArray()) {
            for (int hold = 3; hold <= 6; hold++) {
                Underpaint u = retouched(kind, hold, 0);
                u.solvent(5, 1);
                boolean takes = "vxfrz".indexOf(kind) >= 0 && hold <= 4;
                boolean swells = "pz".indexOf(kind) >= 0 && hold <= 5;
                Check.same("P36 strength 5 over " + kind + hold, u.comesOff(2, 3), takes || swells ? -1 : 0);
                Check.same("P36 strength 5 over " + kind + hold + " over g9", u.comesOff(3, 3), takes || swells ? -1 : 0);
            }
        }
    }

    private static Underpaint tired(int by) {
        Underpaint u = Easel.withStuffs();
        Easel.layAt(u, 1, 10, 3, 3);
        Easel.layAt(u, 3, 10, 3, 3);
        for (int left = by; left > 0; left -= 50) {
            u.pass(Math.min(50, left));
        }
        return u;
    }

    /** Less tired by 30, at least 0. */
    private static void glueOfThirty() {
        int[][] cases = {{0, 0}, {1, 0}, {29, 0}, {30, 0}, {31, 1}, {99, 69}};
        for (int[] c : cases) {
            Underpaint u = tired(c[0]);
            Check.same("P37 tired by " + c[0], u.glue(3, 3), c[1]);
            Check.same("P7 tired by " + c[0], u.tired(3, 3), c[1]);
        }
        for (int[] p : NO_PLACES) {
            Edge.refused("P37 place", Easel.ARGUMENT, () -> tired(40), v -> v.glue(p[0], p[1]));
        }
    }

    /** Throws if the file has 40 acts. */
    private static void glueInFullFile() {
        Check.same("P37 the fortieth act", Edge.almostFullFile().glue(3, 3), 0);
        Edge.refused("P37 a forty-first act", Easel.STATE, Edge::fullFile, v -> v.glue(3, 3));
        Edge.refused("P37 no place, in a full file", Easel.ARGUMENT, Edge::fullFile, v -> v.glue(3, 6));
    }
}
