import java.math.BigInteger;

/** Promises 38 to 50 at their bounds: each method is of one sentence of the document, which stands above it. */
final class EdgeFileTest {
    private EdgeFileTest() {
    }

    static void run() {
        threadBounds();
        threadsAtTheEnds();
        policies();
        nineMembers();
        moreThanHalf();
        nobodyWins();
        legBounds();
        eightLegs();
        justTenFlakes();
        eachRoundedDown();
        halfRoundedDown();
        nothingToFlake();
        lentToTheMost();
        riskEverywhere();
        riskOfNoLegs();
        lendOfNoLegs();
        lendInFullFile();
        actsThatAreNone();
        fortyActs();
        onlyAct();
        firstAndLastAct();
        cannotBeDoneThen();
        canJustBeDone();
        noTestsAndNoSignatures();
        sumWrapsAround();
        sumAfterRefusals();
        shareBounds();
        meanOfNone();
        soundAtTheBounds();
        lastOfManyCalls();
    }

    /** The sum of 2 to the power of each thread that is cut, 0 to 65535. */
    private static void threadBounds() {
        Underpaint u = new Underpaint();
        Check.same("P38 none is cut", u.threads(0), 0);
        Check.same("P38 all are cut", u.threads(65535), 31);
        for (int bad : new int[] {-1, 65536, Integer.MIN_VALUE, Integer.MAX_VALUE}) {
            Edge.refused("P38 cut " + bad, Easel.ARGUMENT, Underpaint::new, v -> v.threads(bad));
        }
    }

    /** The threads 0 to 15; the square of how many of its neighbours, one number less or more, are cut still. */
    private static void threadsAtTheEnds() {
        Underpaint u = new Underpaint();
        for (int i = 0; i < 16; i++) {
            Check.same("P38 thread " + i + " alone", u.threads(1 << i), 1);
        }
        Check.same("P38 the first two", u.threads(3), 3);
        Check.same("P38 the last two", u.threads(49152), 3);
        Check.same("P38 0 and 15 are no neighbours", u.threads(32769), 2);
        Check.same("P38 two apart by one", u.threads(5), 2);
        Check.same("P38 three", u.threads(14), 5);
    }

    /** Throws if there is no such policy, or both are the same. */
    private static void policies() {
        for (char first : "leh".toCharArray()) {
            for (char second : "leh".toCharArray()) {
                if (first == second) {
                    Edge.refused("P39 twice " + first, Easel.ARGUMENT, () -> voted(1, 0), v -> v.ballot(first, second));
                } else {
                    Check.same("P39 " + first + second, new Underpaint().ballot(first, second), 1);
                }
            }
            for (char bad : new char[] {'L', 'a', 'f', 'g', 'i', 'k', 'm', ' ', 0, 'l' + 256}) {
                Edge.refused("P39 first " + (int) bad, Easel.ARGUMENT, () -> voted(1, 0), v -> v.ballot(bad, first));
                Edge.refused("P39 second " + (int) bad, Easel.ARGUMENT, () -> voted(1, 0), v -> v.ballot(first, bad));
                Edge.refused("P39 neither " + (int) bad, Easel.ARGUMENT, () -> voted(1, 0), v -> v.ballot(bad, bad));
            }
        }
    }

    /** Some members for 'l' before 'e', and some for 'e' before 'l'. */
    private static Underpaint voted(int least, int legible) {
        Underpaint u = new Underpaint();
        for (int i = 1; i <= least; i++) {
            Check.same("P39 members", u.ballot('l', 'e'), i);
        }
        for (int i = 1; i <= legible; i++) {
            Check.same("P39 members", u.ballot('e', 'l'), least + i);
        }
        return u;
    }

    /** At most 9 members rank them. */
    private static void nineMembers() {
        Check.same("P39 the ninth", voted(4, 4).ballot('l', 'h'), 9);
        Edge.refused("P39 a tenth", Easel.STATE, () -> voted(5, 4), v -> v.ballot('e', 'l'));
        Edge.refused("P39 a tenth of no policy", Easel.ARGUMENT, () -> voted(5, 4), v -> v.ballot('e', 'e'));
    }

    /** If it is ahead of each other one for more than half of the members. */
    private static void moreThanHalf() {
        Check.same("P40 one of one", voted(1, 0).winner(), 'l');
        Check.same("P40 two of three", voted(2, 1).winner(), 'l');
        Check.same("P40 one of three", voted(1, 2).winner(), 'e');
        Check.same("P40 five of nine", voted(5, 4).winner(), 'l');
        Check.same("P40 four of nine", voted(4, 5).winner(), 'e');
        Edge.refused("P40 one of two", Easel.NO_ELEMENT, () -> voted(1, 1), v -> v.winner());
        Edge.refused("P40 four of eight", Easel.NO_ELEMENT, () -> voted(4, 4), v -> v.winner());
    }

    private static Underpaint votedRound() {
        Underpaint u = new Underpaint();
        u.ballot('l', 'e');
        u.ballot('e', 'h');
        u.ballot('h', 'l');
        return u;
    }

    /** None, if there is no such one. */
    private static void nobodyWins() {
        Edge.refused("P40 no members", Easel.NO_ELEMENT, Underpaint::new, v -> v.winner());
        Edge.refused("P40 each beats the next", Easel.NO_ELEMENT, EdgeFileTest::votedRound, v -> v.winner());
        Underpaint u = votedRound();
        u.ballot('h', 'l');
        Check.fails("P40 h is not ahead of e for more than half", Easel.NO_ELEMENT, () -> u.winner());
        u.ballot('h', 'l');
        Check.same("P40 three of five ahead of each", u.winner(), 'h');
    }

    /** Each with a shock from 0 to 9 and a damp from 0 to 99. */
    private static void legBounds() {
        Underpaint u = new Underpaint();
        Check.same("P41 the least", u.leg(0, 0), 1);
        Check.same("P41 the most", u.leg(9, 99), 2);
        for (int bad : new int[] {-1, 10}) {
            Edge.refused("P41 shock " + bad, Easel.ARGUMENT, () -> withLegs(1), v -> v.leg(bad, 50));
            Edge.refused("P41 shock " + bad + " of a ninth", Easel.ARGUMENT, () -> withLegs(8), v -> v.leg(bad, 50));
        }
        for (int bad : new int[] {-1, 100}) {
            Edge.refused("P41 damp " + bad, Easel.ARGUMENT, () -> withLegs(1), v -> v.leg(5, bad));
            Edge.refused("P41 damp " + bad + " of a ninth", Easel.ARGUMENT, () -> withLegs(8), v -> v.leg(5, bad));
        }
    }

    private static Underpaint withLegs(int legs) {
        Underpaint u = new Underpaint();
        for (int i = 1; i <= legs; i++) {
            Check.same("P41 legs", u.leg(1, 50), i);
        }
        return u;
    }

    /** Legs, at most 8; the loan has no legs then. */
    private static void eightLegs() {
        Edge.refused("P41 a ninth", Easel.STATE, () -> withLegs(8), v -> v.leg(1, 50));
        Underpaint u = withLegs(8);
        Check.same("P43 eight legs", u.lend(), 0);
        Check.same("P7 tired by each of eight", u.tired(7, 5), 8);
        Check.same("P41 the first of the next loan", u.leg(1, 50), 1);
    }

    /** Ground and paint at 3, 3, tired by so much; the other places are bare. */
    private static Underpaint tired(int by) {
        Underpaint u = Easel.withStuffs();
        Easel.layAt(u, 1, 10, 3, 3);
        Easel.layAt(u, 3, 10, 3, 3);
        for (int left = by; left > 0; left -= 50) {
            u.pass(Math.min(50, left));
        }
        return u;
    }

    /** If this is 10 or more, its topmost layer flakes off; if it is less, the place tires by 1. */
    private static void justTenFlakes() {
        int[][] cases = {{22, 9, 50, 0}, {23, 9, 50, 1}, {39, 5, 50, 0}, {40, 5, 50, 1}, {41, 5, 50, 1}, {60, 2, 10, 1}, {59, 2, 10, 0}};
        for (int[] c : cases) {
            Underpaint u = tired(c[0]);
            u.leg(c[1], c[2]);
            String what = " tired " + c[0] + " shock " + c[1] + " damp " + c[2];
            Check.same("P42" + what, u.risk(), c[3]);
            Check.same("P42 changes nothing," + what, u.tired(3, 3), c[0]);
            Check.same("P43" + what, u.lend(), c[3]);
            Check.same("P43 layers," + what, u.layers(3, 3), 2 - c[3]);
            Check.same("P43 tired then," + what, u.tired(3, 3), c[3] == 1 ? c[0] / 2 : c[0] + 1);
        }
    }

    /** Divided by 20, rounded down, and by the amount of the damp's difference from 50, divided by 10, rounded down. */
    private static void eachRoundedDown() {
        int[][] cases = {{59, 0}, {60, 1}, {41, 0}, {40, 1}, {50, 0}};
        for (int[] c : cases) {
            Underpaint u = tired(99);
            u.leg(2, c[0]);
            Check.same("P42 9 and damp " + c[0], u.risk(), c[1]);
        }
        Underpaint dry = tired(99);
        dry.leg(1, 0);
        Check.same("P42 4 and 5", dry.risk(), 0);
        Underpaint wet = tired(60);
        wet.leg(2, 99);
        Check.same("P42 6 and 4", wet.risk(), 1);
    }

    /** Its tiredness becomes half of it, rounded down. */
    private static void halfRoundedDown() {
        int[][] cases = {{99, 49}, {98, 49}, {25, 12}};
        for (int[] c : cases) {
            Underpaint u = tired(c[0]);
            u.leg(9, 50);
            u.lend();
            Check.same("P43 half of " + c[0], u.tired(3, 3), c[1]);
        }
    }

    /** Its topmost layer, if there is one and it is no support, flakes off; each place, also without layers, suffers. */
    private static void nothingToFlake() {
        Underpaint bare = tired(99);
        bare.scratch(3, 3, 20);
        bare.leg(9, 50);
        Check.same("P42 without layers", bare.risk(), 0);
        Check.same("P43 without layers", bare.lend(), 0);
        Check.same("P43 without layers it suffers", bare.tired(3, 3), 49);
        Check.same("P43 a bare place tires", bare.tired(0, 0), 1);
        Underpaint support = Easel.withStuffs();
        Easel.layAt(support, 0, 10, 3, 3);
        Easel.layAt(support, 3, 10, 3, 3);
        support.pass(50);
        support.leg(9, 50);
        support.leg(9, 50);
        Check.same("P42 the paint, and no support", support.risk(), 1);
        Check.same("P43 the paint, and no support", support.lend(), 1);
        Check.same("P43 the support stays", support.layers(3, 3), 1);
        Check.same("P43 it suffers all the same", support.tired(3, 3), 12);
    }

    /** The place tires by 1, at most to 99. */
    private static void lentToTheMost() {
        Underpaint u = tired(98);
        u.leg(0, 50);
        u.lend();
        Check.same("P43 98 and 1", u.tired(3, 3), 99);
        u.leg(0, 50);
        u.leg(0, 50);
        u.lend();
        Check.same("P43 at most 99", u.tired(3, 3), 99);
        Check.same("P43 a bare place", u.tired(7, 5), 3);
    }

    /** At each leg each place: the first one, the last one, and all layers of a place. */
    private static void riskEverywhere() {
        for (int[] place : new int[][] {{0, 0}, {7, 5}}) {
            Underpaint u = Easel.withStuffs();
            Easel.layAt(u, 1, 10, place[0], place[1]);
            Easel.layAt(u, 3, 10, place[0], place[1]);
            u.pass(50);
            u.leg(9, 50);
            Check.same("P42 at " + place[0] + " " + place[1], u.risk(), 1);
            Check.same("P43 at " + place[0] + " " + place[1], u.lend(), 1);
        }
        Underpaint full = Easel.withStuffs();
        for (int i = 0; i < 9; i++) {
            Easel.layAll(full, i == 0 ? 1 : 3, 5);
        }
        full.damp(99);
        full.pass(50);
        full.leg(9, 99);
        full.leg(9, 99);
        Check.same("P42 all places, nine layers", full.risk(), 96);
        Check.same("P42 once more", full.risk(), 96);
        Check.same("P43 all places, nine layers", full.lend(), 96);
        Check.same("P5 seven", full.layers(7, 5), 7);
    }

    /** To risk a loan tells how many layers would flake off in all its legs. */
    private static void riskOfNoLegs() {
        Check.same("P42 no legs", tired(99).risk(), 0);
        Check.same("P42 a new picture", new Underpaint().risk(), 0);
        Underpaint u = tired(99);
        u.leg(9, 99);
        u.leg(9, 99);
        u.leg(9, 99);
        Check.same("P42 no more than there are", u.risk(), 2);
        Check.same("P42 no act", u.acts(), 4);
        Check.same("P42 the legs stay", u.leg(0, 50), 4);
    }

    /** Throws if it has no legs. */
    private static void lendOfNoLegs() {
        Edge.refused("P43 no legs", Easel.UNSUPPORTED, () -> tired(50), v -> v.lend());
        Underpaint u = withLegs(1);
        u.lend();
        Check.fails("P43 no legs any more", Easel.UNSUPPORTED, () -> u.lend());
        u.takeBack(0);
        Check.fails("P43 none come back", Easel.UNSUPPORTED, () -> u.lend());
    }

    /** Throws if the file has 40 acts. */
    private static void lendInFullFile() {
        Check.same("P43 the fortieth act", Edge.almostFullFile().lend(), 0);
        Edge.refused("P43 a forty-first act", Easel.STATE, Edge::fullFile, v -> v.lend());
        Underpaint u = new Underpaint();
        Easel.fillFile(u);
        Check.fails("P43 no legs, in a full file", Easel.UNSUPPORTED, () -> u.lend());
    }

    /** Throws if there is no such act. */
    private static void actsThatAreNone() {
        Edge.refused("P45 none", Easel.INDEX, Underpaint::new, v -> v.actAt(0));
        Edge.refused("P46 none", Easel.INDEX, Underpaint::new, v -> v.takeBack(0));
        for (int bad : new int[] {-1, 2, Integer.MIN_VALUE, Integer.MAX_VALUE}) {
            Edge.refused("P45 act " + bad, Easel.INDEX, () -> tired(0), v -> v.actAt(bad));
            Edge.refused("P46 act " + bad, Easel.INDEX, () -> tired(0), v -> v.takeBack(bad));
        }
        for (int bad : new int[] {-1, 40}) {
            Edge.refused("P45 act of a full file " + bad, Easel.INDEX, Edge::fullFile, v -> v.actAt(bad));
            Edge.refused("P46 act of a full file " + bad, Easel.INDEX, Edge::fullFile, v -> v.takeBack(bad));
        }
    }

    /** Is kept in the file, at most 40. */
    private static void fortyActs() {
        Check.same("P44 none", new Underpaint().acts(), 0);
        Underpaint u = Edge.fullFile();
        Check.same("P44 forty", u.acts(), 40);
        Check.same("P45 the first", u.actAt(0), 'l');
        Check.same("P45 the last", u.actAt(39), 'g');
        Check.fails("P37 refused", Easel.STATE, () -> u.glue(0, 0));
        Check.same("P44 forty still", u.acts(), 40);
        Check.same("P46 the last of forty", u.takeBack(39), 39);
        Check.same("P10 there is room", u.pass(1), 1601);
        Check.same("P46 the first of forty", u.takeBack(2), 39);
        Check.same("P45 what came last", u.actAt(38), 'y');
        Check.yes("P50 all done again", u.isSound());
    }

    /** The picture is as it was first, without layers, scratches and tiredness, in the year 1600. */
    private static void onlyAct() {
        Underpaint u = Easel.withStuffs();
        u.pass(50);
        Check.same("P46 no acts", u.takeBack(0), 0);
        Check.same("P11 the year", u.year(), 1600);
        Easel.layAll(u, 3, 10);
        Check.same("P46 no acts again", u.takeBack(0), 0);
        Check.same("P47 as at first", u.checksum(), new Underpaint().checksum());
        u.leg(0, 50);
        u.lend();
        Check.same("P7 tired", u.tired(3, 3), 1);
        u.takeBack(0);
        Check.same("P7 not tired", u.tired(3, 3), 0);
        Check.same("P47 as at first once more", u.checksum(), new Underpaint().checksum());
        Check.fails("P46 nothing is left", Easel.INDEX, () -> u.takeBack(0));
    }

    /** All acts but this one are done again, by their order. */
    private static void firstAndLastAct() {
        Underpaint u = Easel.withStuffs();
        Easel.layAt(u, 1, 10, 3, 3);
        u.pass(7);
        Easel.layAt(u, 3, 20, 3, 3);
        u.scratch(3, 3, 5);
        Check.same("P46 without the last", u.takeBack(3), 3);
        Check.same("P26 no scratch", u.scratches(), 0);
        Check.same("P6 not scratched", u.layerAt(3, 3, 1, 't'), 20);
        Check.same("P46 without the first", u.takeBack(0), 2);
        Check.same("P5 one layer", u.layers(3, 3), 1);
        Check.same("P6 the paint", u.layerAt(3, 3, 0, 's'), 3);
        Check.same("P6 its year", u.layerAt(3, 3, 0, 'y'), 1607);
        Check.same("P45 order", u.actAt(0), 'y');
        Check.same("P45 order", u.actAt(1), 'l');
    }

    /** If one of them cannot be done then, nothing is changed. */
    private static void cannotBeDoneThen() {
        Edge.refused("P46 a scratch of nothing", Easel.UNSUPPORTED, EdgeFileTest::scratched, v -> v.takeBack(0));
        Edge.refused("P46 a fill of what is as high", Easel.UNSUPPORTED, EdgeFileTest::filled, v -> v.takeBack(0));
        Edge.refused("P46 after one that was taken back", Easel.UNSUPPORTED, EdgeFileTest::takenBack, v -> v.takeBack(0));
        Edge.refused("P46 a tenth layer", Easel.UNSUPPORTED, () -> layered('l'), v -> v.takeBack(9));
        Edge.refused("P46 a tenth, by fill", Easel.UNSUPPORTED, () -> layered('f'), v -> v.takeBack(9));
        Edge.refused("P46 a tenth, by retouching", Easel.UNSUPPORTED, () -> layered('r'), v -> v.takeBack(9));
    }

    private static Underpaint scratched() {
        Underpaint u = Easel.withStuffs();
        Easel.layAt(u, 3, 10, 3, 3);
        u.pass(3);
        u.scratch(3, 3, 4);
        return u;
    }

    private static Underpaint takenBack() {
        Underpaint u = scratched();
        u.pass(50);
        u.takeBack(3);
        u.takeBack(1);
        return u;
    }

    private static Underpaint filled() {
        Underpaint u = Easel.withStuffs();
        Easel.layAt(u, 3, 10, 3, 3);
        u.pass(3);
        u.fill(6, 3, 4);
        return u;
    }

    /** Nine layers, of which the ninth was scratched off and is put again, as told by the letter. */
    private static Underpaint layered(char how) {
        Underpaint u = Easel.withStuffs();
        for (int i = 0; i < 9; i++) {
            u.lay(3, 5, 3, 3, 3, i == 0 ? 4 : 3);
        }
        u.scratch(3, 3, 5);
        if (how == 'l') {
            u.lay(4, 5, 2, 2, 4, 4);
        } else if (how == 'r') {
            u.retouch(7, 3, 3, 50);
        } else {
            u.lay(1, 200, 3, 4, 3, 4);
            u.fill(6, 3, 3);
        }
        Check.same("P5 nine", u.layers(3, 3), 9);
        return u;
    }

    /** The same, where it can. */
    private static void canJustBeDone() {
        Underpaint u = layered('l');
        Check.same("P46 eight and one", u.takeBack(8), 10);
        Check.same("P5 eight", u.layers(3, 3), 8);
        Underpaint f = filled();
        Easel.layAt(f, 1, 1, 2, 4);
        Check.same("P46 a fill of 1", f.takeBack(1), 3);
        Check.fails("P46 as high as nothing", Easel.UNSUPPORTED, () -> f.takeBack(0));
        Underpaint s = scratched();
        Check.same("P46 a scratch without the years", s.takeBack(1), 2);
        Check.same("P25 it is done", s.layerAt(3, 3, 0, 't'), 6);
    }

    /** Acts that are done again are no tests, and need neither tests nor signatures. */
    private static void noTestsAndNoSignatures() {
        Underpaint u = Easel.withStuffs();
        u.solvent(9, 10);
        Easel.layAll(u, 4, 30);
        Easel.layAll(u, 5, 30);
        u.swab(0, 0, 0, 2);
        u.swab(0, 3, 3, 2);
        u.sign();
        u.swab(0, 4, 3, 4);
        u.takeBack(2);
        Check.same("P30 tested as before", u.tested(0), 20);
        Check.same("P46 done without its test", u.layerAt(3, 3, 1, 't'), 10);
        Check.same("P46 done without a signature", u.layerAt(4, 3, 0, 't'), 20);
        u.takeBack(1);
        Check.same("P46 all the glaze, done without a signature", u.layers(4, 3), 0);
        Check.same("P46 some of the glaze, done without a test", u.layerAt(3, 3, 0, 't'), 10);
        Check.same("P30 no test", u.tested(0), 20);
        Check.yes("P31 not signed", u.sign());
    }

    /** 7 at first, then 31 times itself: a long wraps around. */
    private static void sumWrapsAround() {
        BigInteger bare = BigInteger.valueOf(7);
        for (int i = 0; i < 48; i++) {
            bare = bare.multiply(BigInteger.valueOf(31));
        }
        Check.yes("P47 no long holds it", bare.bitLength() > 63);
        Check.same("P47 without layers", new Underpaint().checksum(), bare.longValue());
        Underpaint u = new Underpaint();
        for (int i = 0; i < 12; i++) {
            u.stuff('v', 99, 100, 9, 9, 9, 9, 9999, true);
        }
        for (int i = 0; i < 9; i++) {
            Easel.layAll(u, 11, 200);
        }
        u.damp(99);
        for (int i = 0; i < 21; i++) {
            u.pass(50);
        }
        BigInteger full = BigInteger.valueOf(7);
        for (int i = 0; i < 48; i++) {
            for (int layer = 0; layer < 9; layer++) {
                int yellow = layer == 8 ? 99 : 0;
                full = full.multiply(BigInteger.valueOf(31)).add(BigInteger.valueOf(11 + 13 * 200 + 17 * 99 + 19 * yellow));
            }
        }
        for (int i = 0; i < 48; i++) {
            full = full.multiply(BigInteger.valueOf(31)).add(BigInteger.valueOf(99));
        }
        Check.same("P47 all as great as can be", u.checksum(), full.longValue());
    }

    /** A method that throws an exception changes nothing. */
    private static void sumAfterRefusals() {
        Underpaint u = Edge.nineLayers();
        long before = u.checksum();
        Check.fails("P4 refused", Easel.UNSUPPORTED, () -> Easel.layAll(u, 3, 1));
        Check.fails("P33 refused", Easel.UNSUPPORTED, () -> u.fill(6, 3, 3));
        Check.fails("P34 refused", Easel.UNSUPPORTED, () -> u.retouch(7, 3, 3, 1));
        Check.fails("P25 refused", Easel.UNSUPPORTED, () -> u.scratch(0, 0, 1));
        Check.fails("P43 refused", Easel.UNSUPPORTED, () -> u.lend());
        Check.same("P47 as before", u.checksum(), before);
    }

    /** Their number divided by 48, both converted to float. */
    private static void shareBounds() {
        Underpaint u = Easel.withStuffs();
        Check.same("P48 none", u.coveredShare(), 0.0);
        Easel.layAt(u, 3, 1, 7, 5);
        Check.same("P48 the last place", u.coveredShare(), (double) (1.0f / 48.0f));
        u.lay(3, 1, 0, 0, 7, 4);
        u.lay(3, 1, 0, 5, 5, 5);
        Check.same("P48 all but one", u.coveredShare(), (double) (47.0f / 48.0f));
        Easel.layAll(u, 3, 1);
        Check.same("P48 all", u.coveredShare(), 1.0);
        u.scratch(0, 0, 2);
        Check.same("P48 the first place is bare", u.coveredShare(), (double) (47.0f / 48.0f));
    }

    private static Underpaint bare() {
        Underpaint u = Easel.withStuffs();
        Easel.layAt(u, 3, 10, 3, 3);
        u.scratch(3, 3, 10);
        return u;
    }

    /** Throws if there are none. */
    private static void meanOfNone() {
        Class<ArithmeticException> arithmetic = ArithmeticException.class;
        Edge.refused("P49 no layers", arithmetic, Easel::withStuffs, v -> v.meanTone());
        Edge.refused("P49 no layers any more", arithmetic, EdgeFileTest::bare, v -> v.meanTone());
        Underpaint u = Easel.withStuffs();
        Easel.layAt(u, 1, 20, 7, 5);
        Check.same("P49 one", u.meanTone(), 90.0);
        Easel.layAt(u, 0, 20, 0, 0);
        Easel.layAt(u, 0, 20, 7, 0);
        Check.same("P49 210 of three", u.meanTone(), 70.0);
        Easel.layAt(u, 1, 1, 7, 0);
        // 5 of 90 and 95 of 60 is 61 and a half.
        Check.same("P49 a view is rounded, the mean is not", u.meanTone(), 211.0 / 3.0);
    }

    /** All is sound; no place is more tired than 99, nor has more than 9 layers. */
    private static void soundAtTheBounds() {
        Check.yes("P50 a new picture", new Underpaint().isSound());
        Check.yes("P50 a full file", Edge.fullFile().isSound());
        Underpaint u = Edge.nineLayers();
        u.damp(0);
        u.pass(50);
        u.pass(50);
        Check.same("P7 99", u.tired(3, 3), 99);
        Check.yes("P50 nine layers, tired by 99", u.isSound());
        u.light(0);
        u.damp(50);
        u.sign();
        Check.yes("P50 with the light and damp of then", u.isSound());
        Check.yes("P50 all taken back", bareFile().isSound());
        Underpaint s = scratched();
        Check.yes("P50 one scratch", s.isSound());
        s.scratch(3, 3, 1);
        Easel.layAt(s, 3, 10, 0, 0);
        s.scratch(0, 0, 1);
        Check.yes("P50 three scratches", s.isSound());
    }

    private static Underpaint bareFile() {
        Underpaint u = bare();
        u.takeBack(1);
        u.takeBack(0);
        return u;
    }

    /** An object is used for at most 512 calls. */
    private static void lastOfManyCalls() {
        Underpaint u = new Underpaint();
        u.stuff('p', 10, 50, 2, 3, 9, 9, 0, false);
        for (int i = 2; i < 512; i++) {
            if (u.lay(0, 1, 3, 3, 3, 3) == 1) {
                u.takeBack(0);
                i++;
            }
        }
        Check.same("P44 the last call", u.acts(), 0);
    }
}
