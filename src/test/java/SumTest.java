/** Promises 47 to 49: checksum, coveredShare, meanTone. */
final class SumTest {
    private SumTest() {
    }

    static void run() {
        sums();
        shares();
        means();
    }

    private static long dueOf(Underpaint u) {
        long sum = 7;
        for (int y = 0; y < 6; y++) {
            for (int x = 0; x < 8; x++) {
                for (int i = 0; i < u.layers(x, y); i++) {
                    sum = sum * 31 + u.layerAt(x, y, i, 's') + 13L * u.layerAt(x, y, i, 't')
                        + 17L * u.layerAt(x, y, i, 'c') + 19L * u.layerAt(x, y, i, 'g');
                }
            }
        }
        for (int y = 0; y < 6; y++) {
            for (int x = 0; x < 8; x++) {
                sum = sum * 31 + u.tired(x, y);
            }
        }
        return sum;
    }

    private static void sums() {
        Underpaint u = Easel.withStuffs();
        Check.same("P47 at first", u.checksum(), dueOf(u));
        Easel.layAll(u, 1, 17);
        Check.same("P47 one layer", u.checksum(), dueOf(u));
        u.lay(3, 9, 2, 1, 5, 1);
        Easel.layAt(u, 5, 9, 6, 4);
        u.pass(35);
        Check.same("P47 more", u.checksum(), dueOf(u));
        long sum = 7;
        for (int i = 0; i < 48; i++) {
            sum = sum * 31;
        }
        Check.same("P47 of nothing", new Underpaint().checksum(), sum);
    }

    private static void shares() {
        Underpaint u = Easel.withStuffs();
        Check.same("P48 none", u.coveredShare(), 0.0);
        Easel.layAt(u, 1, 1, 3, 3);
        Check.same("P48 one", u.coveredShare(), (double) (1f / 48f));
        Easel.layAt(u, 1, 1, 3, 3);
        Check.same("P48 one still", u.coveredShare(), (double) (1f / 48f));
        u.lay(1, 1, 0, 0, 7, 0);
        Check.same("P48 nine", u.coveredShare(), (double) (9f / 48f));
        u.scratch(3, 3, 2);
        Check.same("P48 eight", u.coveredShare(), (double) (8f / 48f));
        Easel.layAll(u, 1, 1);
        Check.same("P48 all", u.coveredShare(), 1.0);
    }

    private static void means() {
        Underpaint u = Easel.withStuffs();
        Check.fails("P49 none", ArithmeticException.class, () -> u.meanTone());
        Easel.layAt(u, 1, 20, 0, 0);
        Check.same("P49 one", u.meanTone(), 90.0);
        Easel.layAt(u, 0, 20, 7, 5);
        Easel.layAt(u, 0, 20, 1, 5);
        Check.same("P49 three", u.meanTone(), 70.0);
        Easel.layAt(u, 2, 20, 1, 5);
        int seen = (90 * 5 + 10 * 60) / 100;
        Check.same("P49 rounded first", u.meanTone(), (90.0 + 60.0 + seen) / 3.0);
        u.scratch(0, 0, 20);
        Check.same("P49 two", u.meanTone(), (60.0 + seen) / 2.0);
    }
}
