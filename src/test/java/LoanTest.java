/** Promises 41 to 43: leg, risk, lend. */
final class LoanTest {
    private LoanTest() {
    }

    static void run() {
        legs();
        suffering();
        flakes();
        supports();
        empty();
        lendFile();
    }

    private static void legs() {
        Underpaint u = new Underpaint();
        for (int i = 1; i <= 8; i++) {
            Check.same("P41 legs", u.leg(i % 2 * 9, i % 2 * 99), i);
        }
        Check.fails("P41 eight", Easel.STATE, () -> u.leg(0, 0));
        for (int bad : new int[] {-1, 10, Integer.MIN_VALUE, Integer.MAX_VALUE}) {
            Check.fails("P41 shock", Easel.ARGUMENT, () -> u.leg(bad, 0));
        }
        for (int bad : new int[] {-1, 100, Integer.MIN_VALUE, Integer.MAX_VALUE}) {
            Check.fails("P41 damp", Easel.ARGUMENT, () -> u.leg(0, bad));
        }
        u.lend();
        Check.same("P43 no legs then", u.leg(1, 1), 1);
    }

    /** A place that is tired by so much, with a ground and a paint. */
    private static Underpaint tired(int amount) {
        Underpaint u = Easel.withStuffs();
        Easel.layAt(u, 1, 5, 2, 2);
        Easel.layAt(u, 3, 5, 2, 2);
        for (int left = amount; left > 0; left -= 50) {
            u.pass(Math.min(50, left));
        }
        Check.same("P7 tired", u.tired(2, 2), Math.min(99, amount));
        return u;
    }

    private static void suffering() {
        // Shock times tiredness by 20, and the damp's difference from 50 by 10: 10 or more flakes.
        int[][] cases = {{40, 5, 50, 1}, {39, 5, 50, 0}, {39, 5, 60, 1}, {39, 5, 59, 0}, {39, 5, 40, 1}, {39, 5, 41, 0},
            {23, 9, 50, 1}, {22, 9, 50, 0}, {99, 0, 0, 0}, {99, 1, 0, 0}, {99, 1, 99, 0}, {99, 2, 50, 0}, {99, 2, 60, 1},
            {59, 2, 0, 1}, {50, 2, 0, 1}, {49, 2, 0, 0}, {99, 9, 99, 1}};
        for (int[] c : cases) {
            Underpaint u = tired(c[0]);
            u.leg(c[1], c[2]);
            Check.same("P42 flakes " + c[0] + " " + c[1] + " " + c[2], u.risk(), c[3]);
            Check.same("P42 changes nothing", u.layers(2, 2), 2);
            Check.same("P42 not tired by it", u.tired(2, 2), c[0]);
            Check.same("P43 flakes", u.lend(), c[3]);
            Check.same("P43 layers", u.layers(2, 2), 2 - c[3]);
            Check.same("P43 tired", u.tired(2, 2), c[3] == 1 ? c[0] / 2 : Math.min(99, c[0] + 1));
        }
    }

    private static void flakes() {
        Underpaint u = tired(99);
        Easel.layAt(u, 5, 5, 2, 2);
        u.leg(9, 50);
        u.leg(9, 50);
        u.leg(9, 50);
        // 44 and 49 tired; 22 and 24 tired; 10 and 12 tired.
        Check.same("P42 three legs", u.risk(), 3);
        Check.same("P42 again", u.risk(), 3);
        u.leg(9, 50);
        Check.same("P42 a fourth", u.risk(), 3);
        Check.same("P43 four legs", u.lend(), 3);
        Check.same("P43 tired", u.tired(2, 2), 13);
        Check.same("P43 tired elsewhere", u.tired(5, 5), 4);
        Check.same("P43 one act", u.acts(), 6);
        Check.same("P42 no legs", u.risk(), 0);
        u.leg(9, 99);
        Check.same("P43 new legs alone", u.lend(), 0);
        Check.same("P43 legs of each loan", u.takeBack(5), 6);
        Check.same("P43 the other loan done again, tired", u.tired(2, 2), 49);
        Check.same("P43 the other loan done again, layers", u.layers(2, 2), 2);
    }

    private static void supports() {
        Underpaint u = Easel.withStuffs();
        Easel.layAt(u, 0, 5, 2, 2);
        Easel.layAt(u, 3, 5, 2, 2);
        u.pass(50);
        u.leg(9, 50);
        u.leg(9, 50);
        Check.same("P42 the paint alone", u.risk(), 1);
        u.lend();
        Check.same("P43 the support stays", u.layers(2, 2), 1);
        Check.same("P43 half and half", u.tired(2, 2), 12);
    }

    private static void empty() {
        Underpaint u = Easel.withStuffs();
        Easel.layAt(u, 1, 5, 2, 2);
        Easel.layAt(u, 3, 5, 2, 2);
        u.pass(50);
        u.scratch(2, 2, 10);
        u.leg(9, 50);
        Check.same("P42 nothing there", u.risk(), 0);
        Check.same("P43 nothing there", u.lend(), 0);
        Check.same("P43 half all the same", u.tired(2, 2), 25);
        for (int i = 0; i < 13; i++) {
            for (int j = 0; j < 8; j++) {
                u.leg(0, 99);
            }
            Check.same("P43 nothing flakes", u.lend(), 0);
        }
        Check.same("P43 at most 99", u.tired(2, 2), 99);
        Check.same("P43 at most 99 everywhere", u.tired(7, 5), 99);
        Check.yes("P50 sound", u.isSound());
    }

    private static void lendFile() {
        Underpaint u = tired(99);
        Check.fails("P43 no legs", Easel.UNSUPPORTED, () -> u.lend());
        Check.same("P42 no legs", u.risk(), 0);
        Easel.fillFile(u);
        Check.fails("P43 no legs before state", Easel.UNSUPPORTED, () -> u.lend());
        u.leg(9, 99);
        long before = Easel.print(u);
        Check.fails("P43 forty", Easel.STATE, () -> u.lend());
        Check.same("P43 unchanged", Easel.print(u), before);
        Check.same("P43 legs stay", u.leg(1, 1), 2);
    }
}
