/** Promises 12 to 14: view, note, noted. */
final class ViewTest {
    private ViewTest() {
    }

    static void run() {
        nothingThere();
        plain();
        plainOfVarnish();
        heavyHeatLamp();
        raking();
        noting();
        badRays();
    }

    private static void nothingThere() {
        Underpaint u = new Underpaint();
        Check.same("P12 plain", u.view('p', 3, 3), 50);
        Check.same("P12 heavy", u.view('w', 3, 3), 0);
        Check.same("P12 heat", u.view('h', 3, 3), -1);
        Check.same("P12 lamp", u.view('l', 3, 3), 0);
        Check.same("P12 raking", u.view('r', 3, 3), 0);
    }

    private static void plain() {
        Underpaint u = new Underpaint();
        u.stuff('p', 99, 33, 0, 0, 0, 0, 0, true);
        u.stuff('p', 1, 7, 0, 0, 0, 0, 0, true);
        u.stuff('p', 0, 100, 0, 0, 0, 0, 0, true);
        Easel.layAt(u, 0, 21, 0, 0);
        int share = 33 * 21 / 20;
        Check.same("P12 one layer", u.view('p', 0, 0), (share * 99 + (100 - share) * 50) / 100);
        Easel.layAt(u, 1, 3, 0, 0);
        int upper = 1;
        int lower = 99 * share / 100;
        Check.same("P12 two layers", u.view('p', 0, 0), (upper + lower * 99 + (100 - upper - lower) * 50) / 100);
        Easel.layAt(u, 2, 200, 0, 0);
        Check.same("P12 covered", u.view('p', 0, 0), 0);
        Easel.layAt(u, 0, 10, 0, 0);
        Check.same("P12 over it", u.view('p', 0, 0), 16 * 99 / 100);
    }

    private static void plainOfVarnish() {
        Underpaint u = new Underpaint();
        u.stuff('v', 90, 20, 0, 3, 0, 0, 0, true);
        Easel.layAt(u, 0, 20, 0, 0);
        Easel.layAt(u, 0, 90, 1, 0);
        Check.same("P12 clear varnish", u.view('p', 0, 0), (20 * 90 + 80 * 50) / 100);
        for (int i = 0; i < 4; i++) {
            u.pass(50);
        }
        Check.same("P12 yellow of 20", u.view('p', 0, 0), (40 * 40 + 60 * 50) / 100);
        Check.same("P12 at most 100", u.view('p', 1, 0), 40);
        Check.same("P12 lamp of yellow", u.view('l', 0, 0), 9);
        u.lay(0, 20, 0, 0, 0, 0);
        Check.same("P12 yellow below", u.view('p', 0, 0), (20 * 90 + 32 * 40 + 48 * 50) / 100);
        Check.same("P12 lamp of the topmost", u.view('l', 0, 0), 3);
        u.pass(10);
        Check.same("P12 lamp and 1 yellow", u.view('l', 0, 0), 4);
    }

    private static void heavyHeatLamp() {
        Underpaint u = Easel.withStuffs();
        Easel.layAt(u, 3, 7, 2, 2);
        Check.same("P12 56 tenths", u.view('w', 2, 2), 5);
        Check.same("P12 heat of paint", u.view('h', 2, 2), 3);
        Check.same("P12 lamp of paint", u.view('l', 2, 2), 2);
        Easel.layAt(u, 1, 6, 2, 2);
        Check.same("P12 80 tenths together", u.view('w', 2, 2), 8);
        Check.same("P12 heat goes through", u.view('h', 2, 2), 3);
        Check.same("P12 lamp of ground", u.view('l', 2, 2), 3);
        Easel.layAt(u, 2, 6, 2, 2);
        Check.same("P12 heat of the topmost", u.view('h', 2, 2), 2);
        Easel.layAt(u, 8, 6, 2, 2);
        Check.same("P12 heat below dirt", u.view('h', 2, 2), 2);
        Check.same("P12 lamp of dirt", u.view('l', 2, 2), 0);
        Easel.layAt(u, 0, 6, 4, 4);
        Check.same("P12 all lets heat through", u.view('h', 4, 4), -1);
        Underpaint heavy = new Underpaint();
        heavy.stuff('p', 0, 1, 9, 9, 0, 0, 0, true);
        for (int i = 0; i < 9; i++) {
            Easel.layAt(heavy, 0, 200, 0, 0);
        }
        Check.same("P12 heaviest", heavy.view('w', 0, 0), 1620);
    }

    private static void raking() {
        int[][] sides = {{4, 3}, {2, 3}, {3, 4}, {3, 2}};
        for (int[] side : sides) {
            Underpaint u = Easel.withStuffs();
            Easel.layAll(u, 0, 50);
            Easel.layAt(u, 1, 30, 3, 3);
            Easel.layAt(u, 1, 70, side[0], side[1]);
            Check.same("P12 raking", u.view('r', 3, 3), 40);
            u.scratch(side[0], side[1], 70);
            u.scratch(side[0], side[1], 45);
            Check.same("P12 raking lower", u.view('r', 3, 3), 75);
        }
        Underpaint u = Easel.withStuffs();
        Easel.layAt(u, 0, 50, 2, 2);
        Check.same("P12 aslant does not count", u.view('r', 3, 3), 0);
        Easel.layAt(u, 0, 50, 0, 1);
        Check.same("P12 the row's end is not beside", u.view('r', 7, 0), 0);
        Check.same("P12 at a corner", u.view('r', 0, 0), 50);
        Easel.layAt(u, 0, 9, 7, 5);
        Check.same("P12 at the last corner", u.view('r', 7, 5), 9);
        Check.same("P12 beside the last corner", u.view('r', 6, 5), 9);
        Check.same("P12 above the last corner", u.view('r', 7, 4), 9);
    }

    private static void noting() {
        Underpaint u = Easel.withStuffs();
        for (char ray : "pwhlr".toCharArray()) {
            Check.fails("P14 none", Easel.NO_ELEMENT, () -> u.noted(ray, 2, 2));
        }
        Easel.layAt(u, 3, 10, 2, 2);
        for (char ray : "pwhlr".toCharArray()) {
            Check.same("P13 as seen", u.note(ray, 2, 2), u.view(ray, 2, 2));
        }
        Check.same("P14 plain", u.noted('p', 2, 2), (40 * 70 + 60 * 50) / 100);
        Easel.layAt(u, 5, 100, 2, 2);
        Check.same("P14 plain stays", u.noted('p', 2, 2), 58);
        Check.same("P14 heavy", u.noted('w', 2, 2), 8);
        Check.same("P14 heat", u.noted('h', 2, 2), 3);
        Check.same("P14 lamp", u.noted('l', 2, 2), 2);
        Check.same("P14 raking", u.noted('r', 2, 2), 10);
        Check.same("P13 later one", u.note('l', 2, 2), 8);
        Check.same("P14 takes its place", u.noted('l', 2, 2), 8);
        Check.same("P14 not of another ray", u.noted('r', 2, 2), 10);
        Check.fails("P14 not of another place", Easel.NO_ELEMENT, () -> u.noted('p', 2, 3));
        Check.same("P13 at a corner", u.note('r', 7, 5), 0);
        Check.same("P14 at a corner", u.noted('r', 7, 5), 0);
        Check.same("P13 no act", u.acts(), 2);
        u.takeBack(1);
        u.takeBack(0);
        Check.same("P14 stays when acts are taken back", u.noted('l', 2, 2), 8);
        Check.same("P13 without layers", u.note('h', 2, 2), -1);
        Check.same("P14 none there", u.noted('h', 2, 2), -1);
    }

    private static void badRays() {
        Underpaint u = new Underpaint();
        for (char c = 0; c < 300; c++) {
            char ray = c;
            if ("pwhlr".indexOf(ray) < 0) {
                Check.fails("P12 ray", Easel.ARGUMENT, () -> u.view(ray, 0, 0));
                Check.fails("P13 ray", Easel.ARGUMENT, () -> u.note(ray, 0, 0));
                Check.fails("P14 ray", Easel.ARGUMENT, () -> u.noted(ray, 0, 0));
            }
        }
    }
}
