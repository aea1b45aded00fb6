/** Promises 33 to 38: fill, retouch, isTold, comesOff, glue, threads. */
final class MendTest {
    private MendTest() {
    }

    static void run() {
        fills();
        fillArguments();
        retouches();
        retouchArguments();
        told();
        offComes();
        glues();
        tears();
    }

    private static void fills() {
        int[][] sides = {{4, 3}, {2, 3}, {3, 4}, {3, 2}};
        for (int[] side : sides) {
            Underpaint u = Easel.withStuffs();
            u.pass(3);
            Easel.layAll(u, 0, 50);
            Easel.layAt(u, 1, 70, side[0], side[1]);
            Check.same("P33 to the greatest", u.fill(6, 3, 3), 70);
            Check.same("P33 layers", u.layers(3, 3), 2);
            Check.same("P33 stuff", u.layerAt(3, 3, 1, 's'), 6);
            Check.same("P33 thickness", u.layerAt(3, 3, 1, 't'), 70);
            Check.same("P33 year", u.layerAt(3, 3, 1, 'y'), 1603);
            Check.same("P33 tone", u.layerAt(3, 3, 1, 'c'), 80);
            Check.same("P33 yellow", u.layerAt(3, 3, 1, 'g'), 0);
            Check.fails("P33 as high", Easel.UNSUPPORTED, () -> u.fill(6, 3, 3));
            Check.fails("P33 higher", Easel.UNSUPPORTED, () -> u.fill(6, side[0], side[1]));
        }
        Underpaint u = Easel.withStuffs();
        Easel.layAt(u, 0, 200, 3, 3);
        Easel.layAt(u, 0, 1, 3, 3);
        Check.same("P33 at most 200", u.fill(6, 3, 4), 200);
        Check.same("P33 the rest", u.fill(6, 3, 4), 1);
        Check.fails("P33 aslant does not count", Easel.UNSUPPORTED, () -> u.fill(6, 1, 3));
        Check.fails("P33 all empty", Easel.UNSUPPORTED, () -> u.fill(6, 7, 0));
    }

    private static void fillArguments() {
        Underpaint u = Easel.withStuffs();
        for (int i = 0; i < 9; i++) {
            Easel.layAt(u, 3, 1, 2, 2);
        }
        Easel.layAt(u, 3, 100, 2, 3);
        Check.fails("P33 nine layers", Easel.UNSUPPORTED, () -> u.fill(6, 2, 2));
        for (int bad : new int[] {-1, 9, Integer.MIN_VALUE, Integer.MAX_VALUE}) {
            Check.fails("P33 no stuff", Easel.INDEX, () -> u.fill(bad, 0, 0));
            Check.fails("P33 index first", Easel.INDEX, () -> u.fill(bad, 8, 0));
        }
        for (int other = 0; other < 9; other++) {
            int stuff = other;
            if (stuff != 6) {
                Check.fails("P33 no fill", Easel.ARGUMENT, () -> u.fill(stuff, 2, 4));
            }
        }
        Easel.fillFile(u);
        long before = Easel.print(u);
        Check.fails("P33 forty", Easel.STATE, () -> u.fill(6, 2, 4));
        Check.fails("P33 nine layers before state", Easel.UNSUPPORTED, () -> u.fill(6, 2, 2));
        Check.fails("P33 not lower before state", Easel.UNSUPPORTED, () -> u.fill(6, 2, 3));
        Check.same("P33 unchanged", Easel.print(u), before);
    }

    private static void retouches() {
        Underpaint u = new Underpaint();
        u.stuff('r', 7, 100, 0, 0, 0, 0, 0, true);
        u.stuff('r', 7, 1, 0, 0, 0, 0, 0, true);
        u.stuff('s', 80, 100, 0, 0, 0, 0, 0, true);
        Easel.layAll(u, 2, 100);
        u.pass(4);
        // A quarter is of the retouching: 60 at least, 84 at most.
        Check.same("P34 too dark to reach", u.retouch(0, 0, 0, 44), 60);
        Check.same("P34 lowest tone", u.layerAt(0, 0, 1, 'c'), 0);
        Check.same("P34 thickness", u.layerAt(0, 0, 1, 't'), 5);
        Check.same("P34 year", u.layerAt(0, 0, 1, 'y'), 1604);
        Check.same("P34 stuff", u.layerAt(0, 0, 1, 's'), 0);
        Check.same("P34 seen", u.view('p', 0, 0), 60);
        Check.same("P34 too light to reach", u.retouch(0, 1, 0, 99), 84);
        Check.same("P34 lowest of those", u.layerAt(1, 0, 1, 'c'), 96);
        Check.same("P34 reached", u.retouch(0, 2, 0, 70), 70);
        Check.same("P34 lowest of those", u.layerAt(2, 0, 1, 'c'), 40);
        Check.same("P34 covers nothing", u.retouch(1, 3, 0, 0), 80);
        Check.same("P34 lowest of all", u.layerAt(3, 0, 1, 'c'), 0);
        Check.same("P34 without layers below", new Underpaint().stuff('r', 7, 100, 0, 0, 0, 0, 0, true), 0);
        Underpaint bare = new Underpaint();
        bare.stuff('r', 7, 100, 0, 0, 0, 0, 0, true);
        Check.same("P34 bare place", bare.retouch(0, 4, 4, 40), 40);
        Check.same("P34 its tone", bare.layerAt(4, 4, 0, 'c'), 10);
        Check.same("P34 0", bare.retouch(0, 1, 1, 0), 37);
        betweenTwo();
    }

    /** Where no tone makes the very view, and two are as near, the lower one is taken. */
    private static void betweenTwo() {
        for (int cover : new int[] {100, 60, 33, 8, 4}) {
            for (int wanted = 0; wanted < 100; wanted += 7) {
                Underpaint u = new Underpaint();
                u.stuff('r', 7, cover, 0, 0, 0, 0, 0, true);
                int share = cover * 5 / 20;
                int best = 0;
                for (int tone = 99; tone >= 0; tone--) {
                    if (gap(share, tone, wanted) <= gap(share, best, wanted)) {
                        best = tone;
                    }
                }
                int seen = (share * best + (100 - share) * 50) / 100;
                Check.same("P34 seen " + cover + " " + wanted, u.retouch(0, 3, 3, wanted), seen);
                Check.same("P34 tone " + cover + " " + wanted, u.layerAt(3, 3, 0, 'c'), best);
            }
        }
    }

    private static int gap(int share, int tone, int wanted) {
        return Math.abs((share * tone + (100 - share) * 50) / 100 - wanted);
    }

    private static void retouchArguments() {
        Underpaint u = Easel.withStuffs();
        for (int i = 0; i < 9; i++) {
            Easel.layAt(u, 3, 1, 2, 2);
        }
        Check.fails("P34 nine layers", Easel.UNSUPPORTED, () -> u.retouch(7, 2, 2, 0));
        for (int bad : new int[] {-1, 9, Integer.MIN_VALUE, Integer.MAX_VALUE}) {
            Check.fails("P34 no stuff", Easel.INDEX, () -> u.retouch(bad, 0, 0, 0));
            Check.fails("P34 index first", Easel.INDEX, () -> u.retouch(bad, 8, 0, 100));
        }
        for (int bad : new int[] {-1, 100, Integer.MIN_VALUE, Integer.MAX_VALUE}) {
            Check.fails("P34 tone", Easel.ARGUMENT, () -> u.retouch(7, 0, 0, bad));
            Check.fails("P34 argument first", Easel.ARGUMENT, () -> u.retouch(7, 2, 2, bad));
        }
        for (int other = 0; other < 9; other++) {
            int stuff = other;
            if (stuff != 7) {
                Check.fails("P34 no retouching", Easel.ARGUMENT, () -> u.retouch(stuff, 0, 0, 0));
            }
        }
        Easel.fillFile(u);
        long before = Easel.print(u);
        Check.fails("P34 forty", Easel.STATE, () -> u.retouch(7, 0, 0, 0));
        Check.fails("P34 nine layers before state", Easel.UNSUPPORTED, () -> u.retouch(7, 2, 2, 0));
        Check.same("P34 unchanged", Easel.print(u), before);
    }

    private static void told() {
        int[] lamps = {2, 3, 4, 5, 6, 7, 8};
        boolean[] due = {true, true, false, false, false, true, true};
        for (int i = 0; i < lamps.length; i++) {
            Underpaint u = new Underpaint();
            u.stuff('r', 50, 100, 0, 5, 0, 0, 0, true);
            u.stuff('p', 50, 100, 0, lamps[i], 0, 0, 0, true);
            u.stuff('v', 50, 100, 0, 0, 0, 0, 0, true);
            u.lay(1, 20, 2, 2, 2, 2);
            Check.fails("P35 no retouching", Easel.NO_ELEMENT, () -> u.isTold(2, 2));
            u.retouch(0, 2, 2, 50);
            Check.tell(u.isTold(2, 2) == due[i], "P35 lamp " + lamps[i], "not so", "so");
            u.lay(2, 20, 2, 2, 2, 2);
            Check.fails("P35 varnish above", Easel.NO_ELEMENT, () -> u.isTold(2, 2));
            Check.fails("P36 varnish above", Easel.NO_ELEMENT, () -> u.comesOff(2, 2));
            u.lay(0, 20, 3, 3, 3, 3);
            Check.yes("P35 nothing below", u.isTold(3, 3));
            u.lay(0, 20, 3, 3, 3, 3);
            Check.no("P35 itself below", u.isTold(3, 3));
            Check.fails("P35 no layers", Easel.NO_ELEMENT, () -> u.isTold(0, 0));
            Check.fails("P36 no layers", Easel.NO_ELEMENT, () -> u.comesOff(0, 0));
        }
    }

    /** A retouching of hold 3 over each kind of each hold, and each solvent. */
    private static void offComes() {
        for (char kind : "sgdpzvfrx".toCharArray()) {
            for (int hold = 0; hold < 10; hold++) {
                Underpaint u = new Underpaint();
                u.stuff('r', 50, 100, 0, 5, 3, 0, 0, true);
                u.stuff(kind, 50, 100, 0, 5, hold, 0, 0, true);
                u.lay(1, 20, 2, 2, 2, 2);
                u.lay(0, 20, 2, 2, 2, 2);
                Check.same("P36 no solvent", u.comesOff(2, 2), -1);
                int[] strengths = {3, 9, 6, 5, 4, 1};
                int due = -1;
                for (int i = 0; i < 6; i++) {
                    u.solvent(strengths[i], 1);
                    boolean takes = "vxfrz".indexOf(kind) >= 0 && hold < strengths[i];
                    boolean swells = (kind == 'p' || kind == 'z') && hold <= strengths[i];
                    if (due < 0 && strengths[i] > 3 && !takes && !swells) {
                        due = i;
                    }
                    Check.same("P36 over " + kind + hold, u.comesOff(2, 2), due);
                }
                u.lay(0, 20, 4, 4, 4, 4);
                Check.same("P36 nothing below", u.comesOff(4, 4), 1);
            }
        }
    }

    private static void glues() {
        Underpaint u = Easel.withStuffs();
        Check.same("P37 not tired", u.glue(7, 5), 0);
        Easel.layAll(u, 1, 5);
        Easel.layAll(u, 3, 5);
        u.pass(50);
        u.pass(11);
        Check.same("P37 61 less 30", u.glue(7, 5), 31);
        Check.same("P37 once more", u.glue(7, 5), 1);
        Check.same("P37 at least 0", u.glue(7, 5), 0);
        Check.same("P7 glued", u.tired(7, 5), 0);
        Check.same("P7 elsewhere", u.tired(6, 5), 61);
        Check.same("P37 acts", u.acts(), 8);
        Easel.fillFile(u);
        Check.fails("P37 forty", Easel.STATE, () -> u.glue(6, 5));
        Check.fails("P37 argument first", Easel.ARGUMENT, () -> u.glue(8, 5));
        Check.same("P37 unchanged", u.tired(6, 5), 61);
    }

    private static void tears() {
        Underpaint u = new Underpaint();
        int[] least = leastMinutes();
        for (int cut = 0; cut < 65536; cut++) {
            if (u.threads(cut) != least[cut]) {
                Check.same("P38 cut " + cut, u.threads(cut), least[cut]);
            }
        }
        Check.same("P38 none", u.threads(0), 0);
        Check.same("P38 all", u.threads(65535), 31);
        Check.same("P38 three", u.threads(7), 5);
        Check.same("P38 two apart", u.threads(32769), 2);
        for (int bad : new int[] {-1, 65536, Integer.MIN_VALUE, Integer.MAX_VALUE}) {
            Check.fails("P38 range", Easel.ARGUMENT, () -> u.threads(bad));
        }
        Check.same("P38 no act", u.acts(), 0);
    }

    /** All orders of all tears, each from the tears with one thread less. */
    private static int[] leastMinutes() {
        int[] least = new int[65536];
        for (int cut = 1; cut < 65536; cut++) {
            least[cut] = Integer.MAX_VALUE;
            for (int i = 0; i < 16; i++) {
                if ((cut >> i & 1) != 0) {
                    int beside = (i > 0 ? cut >> i - 1 & 1 : 0) + (i < 15 ? cut >> i + 1 & 1 : 0);
                    least[cut] = Math.min(least[cut], least[cut & ~(1 << i)] + 1 + beside * beside);
                }
            }
        }
        return least;
    }
}
