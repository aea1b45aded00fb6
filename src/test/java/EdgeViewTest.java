/** Promises 12 to 24 at their bounds: each method is of one sentence of the document, which stands above it. */
final class EdgeViewTest {
    private static final int[][] NO_PLACES = {{-1, 3}, {8, 3}, {3, -1}, {3, 6}};
    private static final char[] NO_RAYS = {'q', 'P', 's', 't', ' ', 0, 'p' + 256, 65535};

    private EdgeViewTest() {
    }

    static void run() {
        viewsOfNothing();
        sharesRoundedDown();
        shareOfAHundred();
        leftRoundedDown();
        yellowTone();
        yellowShareOfAHundred();
        heavyTogether();
        heatThroughAll();
        lampOfNine();
        rakingAtTheRim();
        noRayOrPlace();
        noneNoted();
        notedAsNothing();
        laterNote();
        guessesOfFewStuffs();
        oneToThreeLayers();
        plainFiveApart();
        heavyFiveApart();
        thicknessOfTwenty();
        heatAndLampAlike();
        rakingIsNotAsked();
        guessNumbers();
        guessesWithoutYellow();
        stackItselfFiveApart();
        stackItselfAlike();
        stackItselfWhatever();
        yearsOfThePicture();
        laidUpToTheYear();
        laterThanClaimed();
        claimedYears();
        ringWidths();
        ringsFull();
        boardsThatDoNotLie();
        boardsThatJustLie();
        habits();
        sixPainters();
        noPainters();
        nearestOfSeveral();
        justTwice();
    }

    /** Below the lowest layer the rest has the tone 50; -1 if there is none; 0 without a layer. */
    private static void viewsOfNothing() {
        Underpaint u = new Underpaint();
        Check.same("P12 plain of nothing", u.view('p', 7, 5), 50);
        Check.same("P12 heavy of nothing", u.view('w', 7, 5), 0);
        Check.same("P12 heat of nothing", u.view('h', 7, 5), -1);
        Check.same("P12 lamp of nothing", u.view('l', 7, 5), 0);
        Check.same("P12 raking of nothing", u.view('r', 7, 5), 0);
    }

    private static Underpaint dark(int cover, int thickness) {
        Underpaint u = new Underpaint();
        u.stuff('p', 0, cover, 0, 0, 0, 0, 0, true);
        Easel.layAt(u, 0, thickness, 3, 3);
        return u;
    }

    /** Its cover times its thickness, divided by 20, rounded down. */
    private static void sharesRoundedDown() {
        Check.same("P12 19 twentieths", dark(1, 19).view('p', 3, 3), 50);
        Check.same("P12 20 twentieths", dark(1, 20).view('p', 3, 3), 49);
        Check.same("P12 least of all", dark(1, 1).view('p', 3, 3), 50);
        Check.same("P12 99 twentieths", dark(99, 1).view('p', 3, 3), 48);
    }

    /** At most 100. */
    private static void shareOfAHundred() {
        Check.same("P12 99 hundredths", dark(99, 20).view('p', 3, 3), 0);
        Check.same("P12 98 hundredths", dark(98, 20).view('p', 3, 3), 1);
        Check.same("P12 just a hundred", dark(100, 20).view('p', 3, 3), 0);
        Check.same("P12 105 hundredths", dark(100, 21).view('p', 3, 3), 0);
        Check.same("P12 a thousand hundredths", dark(100, 200).view('p', 3, 3), 0);
        Underpaint u = new Underpaint();
        u.stuff('p', 99, 100, 0, 0, 0, 0, 0, true);
        u.stuff('p', 0, 100, 0, 0, 0, 0, 0, true);
        Easel.layAt(u, 0, 200, 3, 3);
        Easel.layAt(u, 1, 200, 3, 3);
        Check.same("P12 nothing is left for what lies below", u.view('p', 3, 3), 0);
    }

    /** What is left times the share, divided by 100, rounded down; the sum divided by 100, rounded down. */
    private static void leftRoundedDown() {
        Underpaint u = new Underpaint();
        u.stuff('p', 99, 50, 0, 0, 0, 0, 0, true);
        u.stuff('p', 0, 1, 0, 0, 0, 0, 0, true);
        Easel.layAt(u, 0, 20, 3, 3);
        Easel.layAt(u, 1, 20, 3, 3);
        // 1 of 0, 49 and no half of 99, 50 of 50: 7351.
        Check.same("P12 49 and a half", u.view('p', 3, 3), 73);
        Underpaint almost = new Underpaint();
        almost.stuff('p', 49, 1, 0, 0, 0, 0, 0, true);
        Easel.layAt(almost, 0, 20, 3, 3);
        Check.same("P12 4999 hundredths", almost.view('p', 3, 3), 49);
    }

    /** With the tone 40 in place of its own, if it has some. */
    private static void yellowTone() {
        Underpaint u = new Underpaint();
        u.stuff('v', 90, 5, 0, 0, 0, 0, 0, true);
        Easel.layAt(u, 0, 20, 3, 3);
        u.pass(9);
        Check.same("P12 no yellow, its own tone", u.view('p', 3, 3), 52);
        u.pass(1);
        Check.same("P12 1 yellow, 40", u.view('p', 3, 3), 49);
    }

    /** A varnish takes so much more hundredths as it has yellow, at most 100 together. */
    private static void yellowShareOfAHundred() {
        Underpaint u = new Underpaint();
        u.stuff('v', 0, 98, 0, 0, 0, 0, 0, true);
        u.stuff('p', 0, 100, 0, 0, 0, 0, 0, true);
        Easel.layAt(u, 1, 20, 3, 3);
        Easel.layAt(u, 0, 20, 3, 3);
        Easel.layAt(u, 0, 20, 5, 3);
        int[] due = {39, 40, 40, 40};
        for (int i = 0; i < 4; i++) {
            u.pass(10);
            Check.same("P12 98 and " + (i + 1) + " over 0", u.view('p', 3, 3), due[i]);
            Check.same("P12 98 and " + (i + 1) + " over 50", u.view('p', 5, 3), 40);
        }
        Easel.layAt(u, 0, 200, 4, 4);
        u.pass(10);
        Check.same("P12 a hundred and 1", u.view('p', 4, 4), 40);
    }

    /** All together divided by 10, rounded down. */
    private static void heavyTogether() {
        Underpaint u = new Underpaint();
        u.stuff('p', 0, 1, 1, 0, 0, 0, 0, true);
        Easel.layAt(u, 0, 9, 3, 3);
        Check.same("P12 9 tenths", u.view('w', 3, 3), 0);
        Easel.layAt(u, 0, 1, 3, 3);
        Check.same("P12 9 and 1 tenths", u.view('w', 3, 3), 1);
        Easel.layAt(u, 0, 9, 3, 3);
        Check.same("P12 19 tenths", u.view('w', 3, 3), 1);
    }

    /** Of the layers that do not let it through, the stuff of the topmost one, -1 if there is none. */
    private static void heatThroughAll() {
        Underpaint u = new Underpaint();
        u.stuff('p', 0, 1, 0, 0, 0, 0, 0, false);
        u.stuff('p', 0, 1, 0, 0, 0, 0, 0, true);
        u.stuff('p', 0, 1, 0, 0, 0, 0, 0, false);
        Easel.layAt(u, 1, 200, 3, 3);
        Check.same("P12 through all", u.view('h', 3, 3), -1);
        Easel.layAt(u, 2, 1, 3, 3);
        Easel.layAt(u, 0, 1, 3, 3);
        Easel.layAt(u, 1, 200, 3, 3);
        Check.same("P12 the upper one of two", u.view('h', 3, 3), 0);
    }

    /** The lamp of the topmost layer's stuff, plus its yellow, at most 9. */
    private static void lampOfNine() {
        Underpaint u = new Underpaint();
        Edge.stuffOf(u, 'v', 0, 0, 7);
        Edge.stuffOf(u, 'v', 0, 0, 9);
        Edge.stuffOf(u, 'v', 0, 0, 0);
        for (int i = 0; i < 3; i++) {
            Easel.layAt(u, i, 1, i, 0);
        }
        int[] due = {8, 9, 9};
        for (int i = 0; i < 3; i++) {
            u.pass(10);
            Check.same("P12 7 and " + (i + 1), u.view('l', 0, 0), due[i]);
            Check.same("P12 9 and " + (i + 1), u.view('l', 1, 0), 9);
            Check.same("P12 0 and " + (i + 1), u.view('l', 2, 0), i + 1);
        }
    }

    /** The greatest amount by which the sum of thickness differs from that of a place beside, above or below. */
    private static void rakingAtTheRim() {
        int[][] corners = {{0, 0}, {7, 0}, {0, 5}, {7, 5}};
        for (int[] c : corners) {
            Underpaint u = Easel.withStuffs();
            Easel.layAll(u, 0, 10);
            Check.same("P12 all alike", u.view('r', c[0], c[1]), 0);
            Easel.layAt(u, 3, 7, c[0], c[1]);
            Check.same("P12 higher", u.view('r', c[0], c[1]), 7);
            Easel.layAt(u, 3, 12, c[0], c[1] == 0 ? 1 : 4);
            Check.same("P12 7 higher than beside, 5 lower than below or above", u.view('r', c[0], c[1]), 7);
            Easel.layAt(u, 3, 15, c[0] == 0 ? 1 : 6, c[1]);
            Check.same("P12 8 lower than beside", u.view('r', c[0], c[1]), 8);
        }
        Underpaint u = Easel.withStuffs();
        Easel.layAt(u, 3, 9, 7, 2);
        Check.same("P12 not beside the next row's first", u.view('r', 0, 3), 0);
        Check.same("P12 beside", u.view('r', 6, 2), 9);
    }

    private static Underpaint withNotes() {
        Underpaint u = Easel.withStuffs();
        Easel.layAt(u, 0, 20, 3, 3);
        for (char ray : "pwhlr".toCharArray()) {
            u.note(ray, 3, 3);
            u.note(ray, 0, 0);
        }
        Easel.layAt(u, 3, 50, 3, 3);
        return u;
    }

    /** Throws if there is no such ray or place. */
    private static void noRayOrPlace() {
        for (char ray : NO_RAYS) {
            Edge.refused("P12 ray " + (int) ray, Easel.ARGUMENT, EdgeViewTest::withNotes, v -> v.view(ray, 3, 3));
            Edge.refused("P13 ray " + (int) ray, Easel.ARGUMENT, EdgeViewTest::withNotes, v -> v.note(ray, 3, 3));
            Edge.refused("P14 ray " + (int) ray, Easel.ARGUMENT, EdgeViewTest::withNotes, v -> v.noted(ray, 3, 3));
        }
        for (char ray : "pwhlr".toCharArray()) {
            for (int[] p : NO_PLACES) {
                Edge.refused("P12 place", Easel.ARGUMENT, EdgeViewTest::withNotes, v -> v.view(ray, p[0], p[1]));
                Edge.refused("P13 place", Easel.ARGUMENT, EdgeViewTest::withNotes, v -> v.note(ray, p[0], p[1]));
                Edge.refused("P14 place", Easel.ARGUMENT, EdgeViewTest::withNotes, v -> v.noted(ray, p[0], p[1]));
            }
        }
    }

    /** Throws if none was noted. */
    private static void noneNoted() {
        for (char ray : "pwhlr".toCharArray()) {
            Edge.refused("P14 nothing noted", Easel.NO_ELEMENT, Easel::withStuffs, v -> v.noted(ray, 0, 0));
            for (char other : "pwhlr".toCharArray()) {
                Underpaint u = new Underpaint();
                u.note(other, 0, 0);
                if (other != ray) {
                    Check.fails("P14 other ray", Easel.NO_ELEMENT, () -> u.noted(ray, 0, 0));
                }
                Check.fails("P14 place beside", Easel.NO_ELEMENT, () -> u.noted(ray, 1, 0));
                Check.fails("P14 place below", Easel.NO_ELEMENT, () -> u.noted(ray, 0, 1));
                Check.fails("P14 last place", Easel.NO_ELEMENT, () -> u.noted(ray, 7, 5));
            }
        }
        Edge.refused("P14 ray before none", Easel.ARGUMENT, Easel::withStuffs, v -> v.noted('q', 0, 0));
    }

    /** What was seen, also where nothing was: -1 and 0 are views. */
    private static void notedAsNothing() {
        Underpaint u = new Underpaint();
        Check.same("P13 heat", u.note('h', 7, 5), -1);
        Check.same("P14 heat", u.noted('h', 7, 5), -1);
        Check.same("P13 lamp", u.note('l', 7, 5), 0);
        Check.same("P14 lamp", u.noted('l', 7, 5), 0);
    }

    /** A later one of the same ray and place takes its place. */
    private static void laterNote() {
        Underpaint u = withNotes();
        Check.same("P14 the earlier one", u.noted('p', 3, 3), 60);
        Check.same("P13 the later one", u.note('p', 3, 3), 70);
        Check.same("P14 the later one", u.noted('p', 3, 3), 70);
        Check.same("P14 another ray stays", u.noted('w', 3, 3), 2);
        Check.same("P14 another place stays", u.noted('p', 0, 0), 50);
    }

    /** Of stuffs, the lowest of the kind 's'. */
    private static void guessesOfFewStuffs() {
        Underpaint u = new Underpaint();
        Check.same("P15 no stuffs", u.guesses(3, 3), 0);
        for (char kind : "gdpzvfrx".toCharArray()) {
            Edge.stuffOf(u, kind, 0, 0, 0);
        }
        Check.same("P15 no support", u.guesses(3, 3), 0);
        Edge.refused("P16 no support", Easel.NO_ELEMENT, Underpaint::new, v -> v.guessAt(3, 3, 0, 0));
        Edge.stuffOf(u, 's', 0, 0, 0);
        Check.same("P15 a support of nine", u.guesses(3, 3), 1 + 9 + 81);
        Check.same("P16 the lowest one", u.guessAt(3, 3, 90, 0), 8);
        for (int[] p : NO_PLACES) {
            Edge.refused("P15 place", Easel.ARGUMENT, EdgeViewTest::withNotes, v -> v.guesses(p[0], p[1]));
            Edge.refused("P16 place", Easel.ARGUMENT, EdgeViewTest::withNotes, v -> v.guessAt(p[0], p[1], 0, 0));
            Edge.refused("P16 place first", Easel.ARGUMENT, Underpaint::new, v -> v.guessAt(p[0], p[1], -1, 9));
            Edge.refused("P17 place", Easel.ARGUMENT, EdgeViewTest::withNotes, v -> v.isPossible(p[0], p[1]));
        }
    }

    /** A stack of 1 to 3 layers; in order by how many layers they have, then by stuffs from the lowest layer on. */
    private static void oneToThreeLayers() {
        Underpaint u = new Underpaint();
        Edge.stuffOf(u, 'p', 0, 0, 0);
        Edge.stuffOf(u, 's', 0, 0, 0);
        int[][] due = {{1}, {1, 0}, {1, 1}, {1, 0, 0}, {1, 0, 1}, {1, 1, 0}, {1, 1, 1}};
        Check.same("P15 all", u.guesses(3, 3), due.length);
        for (int i = 0; i < due.length; i++) {
            for (int j = 0; j < due[i].length; j++) {
                Check.same("P16 guess " + i + " layer " + j, u.guessAt(3, 3, i, j), due[i][j]);
            }
            int number = i;
            int above = due[i].length;
            Check.fails("P16 layer above guess " + i, Easel.NO_ELEMENT, () -> u.guessAt(3, 3, number, above));
        }
    }

    /** A support of a tone that covers all, where a plain view of 50 was noted. */
    private static int guessesOfTone(int tone) {
        Underpaint u = new Underpaint();
        u.stuff('s', tone, 100, 0, 0, 0, 0, 0, true);
        u.note('p', 3, 3);
        return u.guesses(3, 3);
    }

    /** In plain rays by at most 5 more or less. */
    private static void plainFiveApart() {
        Check.same("P15 6 less", guessesOfTone(44), 0);
        Check.same("P15 5 less", guessesOfTone(45), 3);
        Check.same("P15 5 more", guessesOfTone(55), 3);
        Check.same("P15 6 more", guessesOfTone(56), 0);
    }

    /** Guesses of a weight of 2, 4 and 6, where that of a thickness was noted. */
    private static int guessesOfWeight(int noted) {
        Underpaint u = new Underpaint();
        u.stuff('s', 0, 1, 1, 0, 0, 0, 0, true);
        if (noted > 0) {
            Easel.layAt(u, 0, noted * 10, 3, 3);
        }
        Check.same("P13 heavy", u.note('w', 3, 3), noted);
        return u.guesses(3, 3);
    }

    /** In heavy rays by at most 5 more or less. */
    private static void heavyFiveApart() {
        Check.same("P15 2 and 4 are 5 more than 0 at most", guessesOfWeight(0), 2);
        Check.same("P15 6 is 5 more than 1", guessesOfWeight(1), 3);
        Check.same("P15 2 is 5 less than 7", guessesOfWeight(7), 3);
        Check.same("P15 2 is 6 less than 8", guessesOfWeight(8), 2);
        Check.same("P15 6 is 5 less than 11", guessesOfWeight(11), 1);
        Check.same("P15 6 is 6 less than 12", guessesOfWeight(12), 0);
    }

    /** Each of a thickness of 20: three of a weight of 9 are 54. */
    private static void thicknessOfTwenty() {
        int[] noted = {48, 49, 59, 60};
        int[] due = {0, 1, 1, 0};
        for (int i = 0; i < 4; i++) {
            Underpaint u = new Underpaint();
            u.stuff('s', 0, 1, 9, 0, 0, 0, 0, true);
            u.stuff('p', 0, 1, 1, 0, 0, 0, 0, true);
            for (int left = noted[i] * 10; left > 0; left -= 200) {
                Easel.layAt(u, 1, Math.min(200, left), 3, 3);
            }
            Check.same("P13 noted", u.note('w', 3, 3), noted[i]);
            int found = 0;
            for (int j = 0; j < u.guesses(3, 3); j++) {
                found += isAllOfSupport(u, j) ? 1 : 0;
            }
            Check.same("P15 54 where " + noted[i] + " was noted", found, due[i]);
        }
    }

    private static boolean isAllOfSupport(Underpaint u, int guess) {
        try {
            return u.guessAt(3, 3, guess, 1) == 0 && u.guessAt(3, 3, guess, 2) == 0;
        } catch (java.util.NoSuchElementException e) {
            return false;
        }
    }

    private static int guessesOf(char ray, int lamp, boolean isThrough) {
        Underpaint u = new Underpaint();
        u.stuff('s', 50, 100, 0, lamp, 0, 0, 0, isThrough);
        u.note(ray, 3, 3);
        return u.guesses(3, 3);
    }

    /** It would be seen alike. */
    private static void heatAndLampAlike() {
        Check.same("P15 no heat", guessesOf('h', 0, true), 3);
        Check.same("P15 heat of stuff 0 is not -1", guessesOf('h', 0, false), 0);
        Check.same("P15 lamp 0", guessesOf('l', 0, true), 3);
        Check.same("P15 lamp 1 is not 0", guessesOf('l', 1, true), 0);
    }

    /** Other than raking light. */
    private static void rakingIsNotAsked() {
        Underpaint u = new Underpaint();
        u.stuff('s', 50, 100, 0, 0, 0, 0, 0, true);
        Easel.layAt(u, 0, 200, 3, 2);
        u.note('r', 3, 3);
        Check.same("P15 raking", u.guesses(3, 3), 3);
        u.takeBack(0);
        Check.yes("P17 raking", u.isPossible(3, 3));
    }

    private static Underpaint guessed() {
        Underpaint u = Easel.withStuffs();
        Check.same("P16 the last one", u.guessAt(3, 3, 90, 2), 8);
        return u;
    }

    /** Throws if there is no such possible guess, or layer of it. */
    private static void guessNumbers() {
        for (int bad : new int[] {-1, 91, Integer.MIN_VALUE, Integer.MAX_VALUE}) {
            Edge.refused("P16 guess " + bad, Easel.NO_ELEMENT, Easel::withStuffs, v -> v.guessAt(3, 3, bad, 0));
            Edge.refused("P16 guess after another " + bad, Easel.NO_ELEMENT, EdgeViewTest::guessed, v -> v.guessAt(3, 3, bad, 0));
        }
        for (int bad : new int[] {-1, 3, Integer.MIN_VALUE, Integer.MAX_VALUE}) {
            Edge.refused("P16 layer " + bad, Easel.NO_ELEMENT, Easel::withStuffs, v -> v.guessAt(3, 3, 90, bad));
        }
        Edge.refused("P16 layer 1 of 1", Easel.NO_ELEMENT, Easel::withStuffs, v -> v.guessAt(3, 3, 0, 1));
        Underpaint u = Easel.withStuffs();
        u.note('l', 3, 3);
        Check.same("P15 dirt alone is without lamp", u.guesses(3, 3), 1 + 9);
        Check.same("P16 the first possible one", u.guessAt(3, 3, 0, 1), 8);
        Check.fails("P16 no possible one", Easel.NO_ELEMENT, () -> u.guessAt(3, 3, 10, 0));
    }

    /** Without yellow, with its stuffs' tones. */
    private static void guessesWithoutYellow() {
        Underpaint u = new Underpaint();
        Edge.stuffOf(u, 's', 0, 0, 0);
        Edge.stuffOf(u, 'v', 0, 0, 3);
        Easel.layAt(u, 0, 20, 3, 3);
        Easel.layAt(u, 1, 20, 3, 3);
        u.pass(9);
        u.note('l', 3, 3);
        Check.same("P15 no yellow yet", u.guesses(3, 3), 1 + 2);
        u.pass(1);
        u.note('l', 3, 3);
        Check.same("P15 yellow", u.guesses(3, 3), 0);
        Check.yes("P17 yellow as noted", u.isPossible(3, 3));
    }

    private static Underpaint noted(int tone, int weight, int thickness) {
        Underpaint u = new Underpaint();
        u.stuff('p', tone, 100, weight, 0, 0, 0, 0, true);
        u.note('p', 3, 3);
        u.note('w', 3, 3);
        Easel.layAt(u, 0, thickness, 3, 3);
        return u;
    }

    /** All that was noted there would be seen alike now, as told of guesses. */
    private static void stackItselfFiveApart() {
        Check.no("P17 plain 6 less", noted(44, 0, 20).isPossible(3, 3));
        Check.yes("P17 plain 5 less", noted(45, 0, 20).isPossible(3, 3));
        Check.yes("P17 plain 5 more", noted(55, 0, 20).isPossible(3, 3));
        Check.no("P17 plain 6 more", noted(56, 0, 20).isPossible(3, 3));
        Check.yes("P17 heavy 5 more", noted(50, 2, 29).isPossible(3, 3));
        Check.no("P17 heavy 6 more", noted(50, 2, 30).isPossible(3, 3));
        Check.no("P17 both must be", noted(56, 2, 30).isPossible(3, 3));
    }

    /** It would be seen alike, of heat and lamp. */
    private static void stackItselfAlike() {
        for (char ray : "hl".toCharArray()) {
            Underpaint u = new Underpaint();
            u.stuff('p', 50, 100, 0, 1, 0, 0, 0, false);
            u.note(ray, 3, 3);
            Check.yes("P17 nothing there, as noted", u.isPossible(3, 3));
            Easel.layAt(u, 0, 20, 3, 3);
            Check.no("P17 one more", u.isPossible(3, 3));
            u.note(ray, 3, 3);
            Check.yes("P17 noted anew", u.isPossible(3, 3));
            u.scratch(3, 3, 20);
            Check.no("P17 one less", u.isPossible(3, 3));
        }
    }

    /** Whatever its thickness, kinds and number of layers. */
    private static void stackItselfWhatever() {
        Underpaint u = Edge.nineLayers();
        Check.yes("P17 nothing noted", u.isPossible(3, 3));
        Check.yes("P17 nothing noted and no layers", u.isPossible(0, 0));
        for (char ray : "pwhl".toCharArray()) {
            u.note(ray, 3, 3);
        }
        Check.yes("P17 nine layers and no support", u.isPossible(3, 3));
    }

    /** The year, 0 to 9999; 1600 at first. */
    private static void yearsOfThePicture() {
        Underpaint u = new Underpaint();
        Check.same("P18 at first", u.original(0), 1600);
        Check.same("P18 the least", u.original(9999), 0);
        Check.same("P18 the most", u.original(9999), 9999);
        Edge.refused("P18 less", Easel.ARGUMENT, Easel::withStuffs, v -> v.original(-1));
        Edge.refused("P18 more", Easel.ARGUMENT, Easel::withStuffs, v -> v.original(10000));
    }

    /** What is original is what was laid up to the year that is told. */
    private static void laidUpToTheYear() {
        Underpaint u = Easel.withStuffs();
        u.pass(1);
        Easel.layAt(u, 6, 1, 7, 5);
        Check.fails("P19 laid the year after", Easel.NO_ELEMENT, () -> u.tooYoung(0));
        u.original(1601);
        Check.same("P19 laid in that year", u.tooYoung(0), 6);
        u.original(1602);
        Check.same("P19 laid the year before", u.tooYoung(0), 6);
    }

    /** Made later than in the year claimed. */
    private static void laterThanClaimed() {
        Underpaint u = Easel.withStuffs();
        Easel.layAt(u, 6, 1, 0, 0);
        Check.same("P19 the year before it was made", u.tooYoung(1899), 6);
        Edge.refused("P19 the year in which it was made", Easel.NO_ELEMENT, EdgeViewTest::withFill, v -> v.tooYoung(1900));
        Easel.layAt(u, 7, 1, 0, 0);
        Easel.layAt(u, 3, 1, 7, 5);
        Check.same("P19 the lowest of three", u.tooYoung(1703), 3);
        Check.same("P19 the lowest of two", u.tooYoung(1704), 6);
    }

    private static Underpaint withFill() {
        Underpaint u = Easel.withStuffs();
        Easel.layAt(u, 6, 1, 0, 0);
        return u;
    }

    /** The year, 0 to 9999; throws if there is none. */
    private static void claimedYears() {
        Underpaint one = new Underpaint();
        one.stuff('p', 0, 1, 0, 0, 0, 0, 1700, true);
        Easel.layAt(one, 0, 1, 0, 0);
        Check.same("P19 the only stuff", one.tooYoung(1699), 0);
        Underpaint u = new Underpaint();
        u.stuff('p', 0, 1, 0, 0, 0, 0, 9999, true);
        u.stuff('p', 0, 1, 0, 0, 0, 0, 1, true);
        u.stuff('p', 0, 1, 0, 0, 0, 0, 0, true);
        Easel.layAt(u, 2, 1, 3, 3);
        Check.fails("P19 made in 0", Easel.NO_ELEMENT, () -> u.tooYoung(0));
        Easel.layAt(u, 1, 1, 3, 3);
        Check.same("P19 made in 1", u.tooYoung(0), 1);
        Easel.layAt(u, 0, 1, 3, 3);
        Check.same("P19 made in 9999", u.tooYoung(9998), 0);
        Check.fails("P19 the last year", Easel.NO_ELEMENT, () -> u.tooYoung(9999));
        Edge.refused("P19 less", Easel.ARGUMENT, EdgeViewTest::withFill, v -> v.tooYoung(-1));
        Edge.refused("P19 more", Easel.ARGUMENT, EdgeViewTest::withFill, v -> v.tooYoung(10000));
        Edge.refused("P19 without layers", Easel.NO_ELEMENT, Easel::withStuffs, v -> v.tooYoung(0));
    }

    /** Of widths from 1 to 99. */
    private static void ringWidths() {
        for (boolean isMaster : new boolean[] {false, true}) {
            Underpaint u = new Underpaint();
            Check.same("P20 the least", u.ring(1, isMaster), 1);
            Check.same("P20 the most", u.ring(99, isMaster), 2);
            Edge.refused("P20 less", Easel.ARGUMENT, Underpaint::new, v -> v.ring(0, isMaster));
            Edge.refused("P20 more", Easel.ARGUMENT, Underpaint::new, v -> v.ring(100, isMaster));
        }
    }

    private static Underpaint withRings(int board, int master) {
        Underpaint u = new Underpaint();
        for (int i = 1; i <= board; i++) {
            Check.same("P20 of the board", u.ring(i, false), i);
        }
        for (int i = 1; i <= master; i++) {
            Check.same("P20 of the master row", u.ring(i, true), i);
        }
        return u;
    }

    /** At most 20 rings; a master row has at most 60. */
    private static void ringsFull() {
        Edge.refused("P20 a board's 21st", Easel.STATE, () -> withRings(20, 0), v -> v.ring(1, false));
        Edge.refused("P20 a master row's 61st", Easel.STATE, () -> withRings(0, 60), v -> v.ring(1, true));
        Edge.refused("P20 a wrong 21st", Easel.ARGUMENT, () -> withRings(20, 60), v -> v.ring(0, false));
        Edge.refused("P20 a wrong 61st", Easel.ARGUMENT, () -> withRings(20, 60), v -> v.ring(100, true));
        Check.same("P20 the other one has room", withRings(20, 0).ring(1, true), 1);
        Check.same("P20 the board has room", withRings(0, 60).ring(1, false), 1);
    }

    /** Throws if the board has no rings, or more than the master row. */
    private static void boardsThatDoNotLie() {
        Edge.refused("P21 neither has rings", Easel.NO_ELEMENT, () -> withRings(0, 0), v -> v.boardAt());
        Edge.refused("P21 no rings", Easel.NO_ELEMENT, () -> withRings(0, 1), v -> v.boardAt());
        Edge.refused("P21 no master row", Easel.NO_ELEMENT, () -> withRings(1, 0), v -> v.boardAt());
        Edge.refused("P21 one more", Easel.NO_ELEMENT, () -> withRings(20, 19), v -> v.boardAt());
    }

    /** From 0 on, at which all its rings lie within it; of several the first one. */
    private static void boardsThatJustLie() {
        Check.same("P21 one on one", withRings(1, 1).boardAt(), 0);
        Check.same("P21 as many", withRings(20, 20).boardAt(), 0);
        Underpaint u = withRings(20, 60);
        Check.same("P21 the first place", u.boardAt(), 0);
        Underpaint last = new Underpaint();
        for (int i = 0; i < 20; i++) {
            last.ring(60, false);
        }
        for (int i = 1; i <= 60; i++) {
            last.ring(i, true);
        }
        Check.same("P21 the last place", last.boardAt(), 40);
        Underpaint alike = new Underpaint();
        alike.ring(50, false);
        for (int width : new int[] {40, 53, 47, 53}) {
            alike.ring(width, true);
        }
        Check.same("P21 the first of three", alike.boardAt(), 1);
    }

    /** Four numbers from 0 to 99. */
    private static void habits() {
        Check.same("P22 the least", new Underpaint().painter(0, 0, 0, 0), 0);
        Check.same("P22 the most", new Underpaint().painter(99, 99, 99, 99), 0);
        for (int i = 0; i < 4; i++) {
            for (int bad : new int[] {-1, 100}) {
                int[] n = {50, 50, 50, 50};
                n[i] = bad;
                Edge.refused("P22 number " + i, Easel.ARGUMENT, () -> withPainters(1), v -> v.painter(n[0], n[1], n[2], n[3]));
                Edge.refused("P22 number " + i + " of a seventh", Easel.ARGUMENT, () -> withPainters(6), v -> v.painter(n[0], n[1], n[2], n[3]));
                Edge.refused("P23 number " + i, Easel.ARGUMENT, () -> withPainters(1), v -> v.likely(n[0], n[1], n[2], n[3]));
                Edge.refused("P24 number " + i, Easel.ARGUMENT, () -> withPainters(1), v -> v.isSure(n[0], n[1], n[2], n[3]));
                Edge.refused("P23 number " + i + " of none", Easel.ARGUMENT, Underpaint::new, v -> v.likely(n[0], n[1], n[2], n[3]));
                Edge.refused("P24 number " + i + " of none", Easel.ARGUMENT, Underpaint::new, v -> v.isSure(n[0], n[1], n[2], n[3]));
            }
        }
    }

    private static Underpaint withPainters(int painters) {
        Underpaint u = new Underpaint();
        for (int i = 0; i < painters; i++) {
            Check.same("P22 number", u.painter(10 * i, 0, 0, 0), i);
        }
        return u;
    }

    /** At most 6 painters have habits. */
    private static void sixPainters() {
        Check.same("P22 the sixth", withPainters(5).painter(99, 99, 99, 99), 5);
        Edge.refused("P22 a seventh", Easel.STATE, () -> withPainters(6), v -> v.painter(0, 0, 0, 0));
        Check.same("P23 the sixth", withPainters(6).likely(99, 0, 0, 0), 5);
    }

    /** Throws if there are none. */
    private static void noPainters() {
        Edge.refused("P23 none", Easel.NO_ELEMENT, Underpaint::new, v -> v.likely(0, 0, 0, 0));
        Edge.refused("P24 none", Easel.NO_ELEMENT, Underpaint::new, v -> v.isSure(0, 0, 0, 0));
        Check.same("P23 one, far off", withPainters(1).likely(99, 99, 99, 99), 0);
        Check.yes("P24 also if there is but one", withPainters(1).isSure(99, 99, 99, 99));
    }

    /** By the sum of the squares of differences; of several the lowest one. */
    private static void nearestOfSeveral() {
        for (int i = 0; i < 4; i++) {
            Underpaint u = new Underpaint();
            int[] told = {50, 50, 50, 50};
            u.painter(50, 50, 50, 50);
            told[i] = 40;
            u.painter(told[0], told[1], told[2], told[3]);
            told[i] = 60;
            u.painter(told[0], told[1], told[2], told[3]);
            told[i] = 44;
            Check.same("P23 number " + i + ", 4 less", u.likely(told[0], told[1], told[2], told[3]), 1);
            told[i] = 55;
            Check.same("P23 number " + i + ", 5 from two", u.likely(told[0], told[1], told[2], told[3]), 0);
            told[i] = 56;
            Check.same("P23 number " + i + ", 4 more", u.likely(told[0], told[1], told[2], told[3]), 2);
        }
        Underpaint squares = new Underpaint();
        squares.painter(50, 50, 50, 57);
        squares.painter(46, 54, 46, 50);
        Check.same("P23 48 and 49", squares.likely(50, 50, 50, 50), 1);
        Check.same("P23 5 from two", withPainters(6).likely(15, 0, 0, 0), 1);
        Check.same("P23 6 and 4", withPainters(6).likely(16, 0, 0, 0), 2);
        Check.same("P23 4 and 6", withPainters(6).likely(14, 0, 0, 0), 1);
        Check.no("P24 as near", withPainters(6).isSure(15, 0, 0, 0));
    }

    /** It is sure if the next nearest one's sum of squares is at least twice that of this one. */
    private static void justTwice() {
        int[][] nexts = {{7, 0}, {7, 1}, {7, 2}};
        boolean[] due = {false, true, true};
        for (int i = 0; i < 3; i++) {
            Underpaint u = new Underpaint();
            u.painter(nexts[i][0], nexts[i][1], 0, 0);
            u.painter(3, 4, 0, 0);
            Check.tell(u.isSure(0, 0, 0, 0) == due[i], "P24 25 and " + (49 + i * i), "not so", "so");
            Check.same("P23 25", u.likely(0, 0, 0, 0), 1);
        }
        Underpaint same = new Underpaint();
        same.painter(0, 0, 0, 0);
        same.painter(0, 0, 0, 0);
        Check.yes("P24 0 and 0", same.isSure(0, 0, 0, 0));
        Check.no("P24 1 and 1", same.isSure(0, 0, 0, 1));
    }
}
