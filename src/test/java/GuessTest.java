/** Promises 15 to 17: guesses, guessAt, isPossible. */
final class GuessTest {
    private GuessTest() {
    }

    static void run() {
        nothingNoted();
        order();
        nearlyAlike();
        exactlyAlike();
        rakingDoesNotCount();
        freshTones();
        itself();
        manyStuffs();
    }

    private static void nothingNoted() {
        Underpaint u = new Underpaint();
        Check.same("P15 no stuffs", u.guesses(0, 0), 0);
        Check.fails("P16 no stuffs", Easel.NO_ELEMENT, () -> u.guessAt(0, 0, 0, 0));
        u.stuff('p', 0, 1, 0, 0, 0, 0, 0, true);
        Check.same("P15 no support", u.guesses(0, 0), 0);
        u.stuff('s', 0, 1, 0, 0, 0, 0, 0, true);
        Check.same("P15 one support of two", u.guesses(0, 0), 1 + 2 + 4);
        u.stuff('s', 0, 1, 0, 0, 0, 0, 0, true);
        Check.same("P15 two supports of three", u.guesses(7, 5), 2 * (1 + 3 + 9));
    }

    private static void order() {
        Underpaint u = new Underpaint();
        u.stuff('p', 0, 1, 0, 0, 0, 0, 0, true);
        u.stuff('s', 0, 1, 0, 0, 0, 0, 0, true);
        u.stuff('s', 0, 1, 0, 0, 0, 0, 0, true);
        int number = 0;
        for (int size = 1; size <= 3; size++) {
            for (int lowest = 1; lowest < 3; lowest++) {
                for (int middle = 0; middle < (size > 1 ? 3 : 1); middle++) {
                    for (int highest = 0; highest < (size > 2 ? 3 : 1); highest++) {
                        int[] due = {lowest, middle, highest};
                        for (int i = 0; i < size; i++) {
                            Check.same("P16 guess " + number, u.guessAt(4, 4, number, i), due[i]);
                        }
                        int n = number;
                        int s = size;
                        Check.fails("P16 no layer", Easel.NO_ELEMENT, () -> u.guessAt(4, 4, n, s));
                        Check.fails("P16 no layer", Easel.NO_ELEMENT, () -> u.guessAt(4, 4, n, -1));
                        number++;
                    }
                }
            }
        }
        Check.same("P16 all of them", number, u.guesses(4, 4));
        for (int bad : new int[] {26, -1, Integer.MIN_VALUE, Integer.MAX_VALUE, Integer.MAX_VALUE - 1, 1000000000}) {
            Check.fails("P16 no guess", Easel.NO_ELEMENT, () -> u.guessAt(4, 4, bad, 0));
        }
        Check.fails("P16 far layer", Easel.NO_ELEMENT, () -> u.guessAt(4, 4, 0, Integer.MAX_VALUE));
    }

    /** Supports that cover all, of tones about that of the one that is there. */
    private static void nearlyAlike() {
        Underpaint u = new Underpaint();
        for (int tone : new int[] {50, 55, 56, 45, 44}) {
            u.stuff('s', tone, 100, 0, 0, 0, 0, 0, true);
        }
        u.lay(0, 20, 0, 0, 0, 0);
        u.note('p', 0, 0);
        // The topmost one tells what is seen, so three of the five are alike.
        Check.same("P15 plain", u.guesses(0, 0), 3 + 15 + 75);
        Check.same("P16 first", u.guessAt(0, 0, 0, 0), 0);
        Check.same("P16 second", u.guessAt(0, 0, 1, 0), 1);
        Check.same("P16 third", u.guessAt(0, 0, 2, 0), 3);
        Check.same("P15 other place", u.guesses(1, 0), 5 + 25 + 125);
        Underpaint w = new Underpaint();
        w.stuff('s', 0, 1, 4, 0, 0, 0, 0, true);
        w.stuff('s', 0, 1, 1, 0, 0, 0, 0, true);
        w.stuff('s', 0, 1, 7, 0, 0, 0, 0, true);
        w.stuff('s', 0, 1, 0, 0, 0, 0, 0, true);
        w.lay(0, 17, 0, 0, 0, 0);
        Check.same("P13 heavy", w.note('w', 0, 0), 6);
        // From 1 to 11: of sums of weight (doubled) 2, 4, .. 10, as each layer has a thickness of 20.
        int due = 0;
        int[] weights = {4, 1, 7, 0};
        for (int a : weights) {
            due += near(2 * a);
            for (int b : weights) {
                due += near(2 * a + 2 * b);
                for (int c : weights) {
                    due += near(2 * a + 2 * b + 2 * c);
                }
            }
        }
        Check.same("P15 heavy", w.guesses(0, 0), due);
    }

    private static int near(int heavy) {
        return heavy >= 1 && heavy <= 11 ? 1 : 0;
    }

    private static void exactlyAlike() {
        Underpaint u = new Underpaint();
        u.stuff('s', 50, 100, 0, 3, 0, 0, 0, false);
        u.stuff('s', 50, 100, 0, 4, 0, 0, 0, false);
        u.stuff('g', 50, 100, 0, 3, 0, 0, 0, true);
        u.lay(0, 20, 0, 0, 0, 0);
        u.lay(2, 20, 0, 0, 0, 0);
        u.note('l', 0, 0);
        Check.same("P15 lamp", u.guesses(0, 0), 1 + 2 * 2 + 2 * 3 * 2);
        u.note('h', 0, 0);
        // The stuff that heat shows must be the very one: 0, 00, 02, 000, 002, 010 no; 022, 020 and so on.
        int due = 0;
        for (int a = 0; a < 2; a++) {
            due += fits(a, 2, 2, a);
            for (int b = 0; b < 3; b++) {
                due += fits(a, b, 2, b);
                for (int c = 0; c < 3; c++) {
                    due += fits(a, b, c, c);
                }
            }
        }
        Check.same("P15 lamp and heat", u.guesses(0, 0), due);
        u.lay(2, 20, 1, 1, 1, 1);
        u.note('h', 1, 1);
        Check.same("P15 heat of none", u.guesses(1, 1), 0);
    }

    private static int fits(int lowest, int middle, int highest, int topmost) {
        int heat = highest != 2 ? highest : middle != 2 ? middle : lowest;
        return heat == 0 && topmost != 1 ? 1 : 0;
    }

    private static void rakingDoesNotCount() {
        Underpaint u = Easel.withStuffs();
        int all = u.guesses(3, 3);
        Check.same("P15 all", all, 1 + 9 + 81);
        Easel.layAt(u, 3, 100, 3, 3);
        u.note('r', 3, 3);
        Check.same("P15 raking", u.guesses(3, 3), all);
        u.scratch(3, 3, 50);
        Check.yes("P17 raking", u.isPossible(3, 3));
    }

    /** Guesses are without yellow and with the tones of their stuffs; the stack itself is as it is now. */
    private static void freshTones() {
        Underpaint u = new Underpaint();
        u.stuff('s', 10, 100, 0, 0, 0, 9, 0, true);
        u.light(9);
        u.lay(0, 20, 0, 0, 0, 0);
        u.pass(1);
        Check.same("P13 faded", u.note('p', 0, 0), 18);
        Check.same("P15 faded", u.guesses(0, 0), 0);
        Check.yes("P17 faded", u.isPossible(0, 0));
        Underpaint v = new Underpaint();
        v.stuff('s', 60, 100, 0, 0, 0, 0, 0, true);
        v.stuff('v', 60, 10, 0, 3, 0, 0, 0, true);
        v.lay(0, 20, 0, 0, 0, 0);
        v.lay(1, 20, 0, 0, 0, 0);
        v.pass(10);
        Check.same("P13 yellow lamp", v.note('l', 0, 0), 4);
        Check.same("P15 yellow lamp", v.guesses(0, 0), 0);
        Check.yes("P17 yellow lamp", v.isPossible(0, 0));
        v.pass(10);
        Check.no("P17 more yellow", v.isPossible(0, 0));
    }

    private static void itself() {
        Underpaint u = new Underpaint();
        u.stuff('p', 50, 100, 1, 3, 0, 0, 0, false);
        u.stuff('p', 55, 100, 1, 3, 0, 0, 0, false);
        u.stuff('p', 56, 100, 1, 3, 0, 0, 0, false);
        u.stuff('p', 50, 100, 1, 2, 0, 0, 0, true);
        Check.yes("P17 nothing noted", u.isPossible(0, 0));
        u.note('p', 0, 0);
        Check.yes("P17 without layers", u.isPossible(0, 0));
        u.lay(0, 20, 0, 0, 0, 0);
        Check.yes("P17 alike", u.isPossible(0, 0));
        u.lay(1, 20, 0, 0, 0, 0);
        Check.yes("P17 by 5", u.isPossible(0, 0));
        u.lay(2, 20, 0, 0, 0, 0);
        Check.no("P17 by 6", u.isPossible(0, 0));
        u.takeBack(2);
        u.note('w', 0, 0);
        u.lay(1, 50, 0, 0, 0, 0);
        Check.yes("P17 heavier by 5", u.isPossible(0, 0));
        u.lay(1, 10, 0, 0, 0, 0);
        Check.no("P17 heavier by 6", u.isPossible(0, 0));
        Underpaint h = new Underpaint();
        h.stuff('p', 50, 100, 0, 3, 0, 0, 0, false);
        h.stuff('p', 50, 100, 0, 3, 0, 0, 0, false);
        h.stuff('p', 50, 100, 0, 2, 0, 0, 0, true);
        h.lay(0, 20, 0, 0, 0, 0);
        h.note('h', 0, 0);
        h.lay(1, 20, 0, 0, 0, 0);
        Check.no("P17 other heat", h.isPossible(0, 0));
        Check.yes("P17 other place", h.isPossible(1, 0));
        h.note('h', 0, 0);
        h.note('l', 0, 0);
        Check.yes("P17 noted again", h.isPossible(0, 0));
        h.lay(2, 20, 0, 0, 0, 0);
        Check.no("P17 other lamp", h.isPossible(0, 0));
    }

    private static void manyStuffs() {
        Underpaint u = new Underpaint();
        for (int i = 0; i < 12; i++) {
            u.stuff('s', 0, 1, 0, 0, 0, 0, 0, true);
        }
        Check.same("P15 twelve supports", u.guesses(0, 0), 12 + 144 + 1728);
        Check.same("P16 last one", u.guessAt(0, 0, 1883, 2), 11);
        Check.fails("P16 no more", Easel.NO_ELEMENT, () -> u.guessAt(0, 0, 1884, 0));
    }
}
