/** Promises 18 to 24: original, tooYoung, ring, boardAt, painter, likely, isSure. */
final class DateTest {
    private DateTest() {
    }

    static void run() {
        originals();
        young();
        rings();
        boards();
        painters();
        likelyOnes();
        sureOnes();
    }

    private static void originals() {
        Underpaint u = new Underpaint();
        Check.same("P18 before", u.original(0), 1600);
        Check.same("P18 before", u.original(9999), 0);
        Check.same("P18 before", u.original(1700), 9999);
        for (int bad : new int[] {-1, 10000, Integer.MIN_VALUE, Integer.MAX_VALUE}) {
            Check.fails("P18 range", Easel.ARGUMENT, () -> u.original(bad));
            Check.fails("P19 range", Easel.ARGUMENT, () -> u.tooYoung(bad));
        }
        Check.same("P18 kept", u.original(1), 1700);
        Check.fails("P19 none", Easel.NO_ELEMENT, () -> u.tooYoung(0));
    }

    private static void young() {
        Underpaint u = Easel.withStuffs();
        Easel.layAt(u, 3, 5, 7, 5);
        Easel.layAt(u, 4, 5, 7, 5);
        Check.same("P19 lowest of both", u.tooYoung(1649), 3);
        Check.same("P19 the other is not", u.tooYoung(1650), 3);
        Check.same("P19 1703", u.tooYoung(1703), 3);
        Check.fails("P19 1704", Easel.NO_ELEMENT, () -> u.tooYoung(1704));
        u.takeBack(0);
        Check.same("P19 glaze", u.tooYoung(1649), 4);
        u.pass(10);
        Easel.layAt(u, 6, 5, 0, 0);
        Check.fails("P19 not original", Easel.NO_ELEMENT, () -> u.tooYoung(1800));
        u.original(1609);
        Check.fails("P19 not yet original", Easel.NO_ELEMENT, () -> u.tooYoung(1800));
        u.original(1610);
        Check.same("P19 original then", u.tooYoung(1800), 6);
        Check.same("P19 lowest of all", u.tooYoung(1600), 4);
        u.original(1599);
        Check.fails("P19 nothing original", Easel.NO_ELEMENT, () -> u.tooYoung(0));
    }

    private static void rings() {
        Underpaint u = new Underpaint();
        for (int i = 1; i <= 20; i++) {
            Check.same("P20 board", u.ring(i % 2 == 0 ? 99 : 1, false), i);
        }
        for (int i = 1; i <= 60; i++) {
            Check.same("P20 master", u.ring(i, true), i);
        }
        Check.fails("P20 board full", Easel.STATE, () -> u.ring(1, false));
        Check.fails("P20 master full", Easel.STATE, () -> u.ring(1, true));
        for (int bad : new int[] {0, 100, -1, Integer.MIN_VALUE, Integer.MAX_VALUE}) {
            Check.fails("P20 range", Easel.ARGUMENT, () -> u.ring(bad, false));
            Check.fails("P20 range", Easel.ARGUMENT, () -> u.ring(bad, true));
        }
        Underpaint only = new Underpaint();
        for (int i = 0; i < 20; i++) {
            only.ring(5, false);
        }
        Check.same("P20 the master row has room", only.ring(5, true), 1);
    }

    private static void boards() {
        Underpaint u = new Underpaint();
        Check.fails("P21 nothing", Easel.NO_ELEMENT, () -> u.boardAt());
        u.ring(3, false);
        u.ring(5, false);
        Check.fails("P21 no master row", Easel.NO_ELEMENT, () -> u.boardAt());
        u.ring(9, true);
        Check.fails("P21 longer than the master row", Easel.NO_ELEMENT, () -> u.boardAt());
        u.ring(2, true);
        Check.same("P21 as long", u.boardAt(), 0);
        u.ring(6, true);
        Check.same("P21 the last place", u.boardAt(), 1);
        u.ring(4, true);
        u.ring(4, true);
        // From place 0 on: 6 + 3, 1 + 1, 3 + 1, 1 + 1: the first of the two least.
        Check.same("P21 the first of several", u.boardAt(), 1);
        u.ring(4, true);
        u.ring(3, true);
        u.ring(5, true);
        Check.same("P21 the very rings", u.boardAt(), 6);
        Underpaint only = new Underpaint();
        only.ring(1, true);
        Check.fails("P21 no board", Easel.NO_ELEMENT, () -> only.boardAt());
        Underpaint wide = new Underpaint();
        for (int i = 0; i < 60; i++) {
            wide.ring(i == 59 ? 98 : 1, true);
        }
        wide.ring(99, false);
        Check.same("P21 far off", wide.boardAt(), 59);
    }

    private static void painters() {
        Underpaint u = new Underpaint();
        for (int i = 0; i < 6; i++) {
            Check.same("P22 number", u.painter(0, 99, i, 0), i);
        }
        Check.fails("P22 six", Easel.STATE, () -> u.painter(0, 0, 0, 0));
        habitRanges("P22", Easel.ARGUMENT, n -> u.painter(n[0], n[1], n[2], n[3]));
        habitRanges("P23", Easel.ARGUMENT, n -> u.likely(n[0], n[1], n[2], n[3]));
        habitRanges("P24", Easel.ARGUMENT, n -> u.isSure(n[0], n[1], n[2], n[3]));
        Underpaint none = new Underpaint();
        habitRanges("P23 none", Easel.ARGUMENT, n -> none.likely(n[0], n[1], n[2], n[3]));
        habitRanges("P24 none", Easel.ARGUMENT, n -> none.isSure(n[0], n[1], n[2], n[3]));
        Check.fails("P23 none", Easel.NO_ELEMENT, () -> none.likely(0, 0, 0, 0));
        Check.fails("P24 none", Easel.NO_ELEMENT, () -> none.isSure(0, 0, 0, 0));
    }

    private static void habitRanges(String what, Class<? extends RuntimeException> due, java.util.function.Consumer<int[]> call) {
        for (int i = 0; i < 4; i++) {
            for (int bad : new int[] {-1, 100, Integer.MIN_VALUE, Integer.MAX_VALUE}) {
                int[] n = {0, 0, 0, 0};
                n[i] = bad;
                Check.fails(what + " number " + i, due, () -> call.accept(n));
            }
        }
    }

    private static void likelyOnes() {
        Underpaint u = new Underpaint();
        u.painter(10, 0, 0, 0);
        Check.same("P23 the only one", u.likely(99, 99, 99, 99), 0);
        u.painter(0, 10, 0, 0);
        u.painter(0, 0, 10, 0);
        u.painter(0, 0, 0, 10);
        Check.same("P23 several", u.likely(0, 0, 0, 0), 0);
        Check.same("P23 first habit", u.likely(1, 0, 0, 0), 0);
        Check.same("P23 second habit", u.likely(0, 1, 0, 0), 1);
        Check.same("P23 third habit", u.likely(0, 0, 1, 0), 2);
        Check.same("P23 fourth habit", u.likely(0, 0, 0, 1), 3);
        Underpaint squares = new Underpaint();
        squares.painter(6, 0, 0, 0);
        squares.painter(4, 4, 0, 0);
        Check.same("P23 36 and 32", squares.likely(0, 0, 0, 0), 1);
        squares.painter(0, 3, 3, 3);
        Check.same("P23 27", squares.likely(0, 0, 0, 0), 2);
    }

    private static void sureOnes() {
        Underpaint u = new Underpaint();
        u.painter(5, 0, 0, 0);
        Check.yes("P24 the only one", u.isSure(0, 0, 0, 0));
        u.painter(7, 0, 0, 0);
        Check.no("P24 49 and 25", u.isSure(0, 0, 0, 0));
        Check.yes("P24 4 and 0", u.isSure(5, 0, 0, 0));
        Check.no("P24 1 and 1", u.isSure(6, 0, 0, 0));
        u.painter(99, 99, 99, 99);
        Check.no("P24 the next counts, not the last", u.isSure(0, 0, 0, 0));
        Underpaint twice = new Underpaint();
        twice.painter(7, 1, 0, 0);
        twice.painter(5, 0, 0, 0);
        Check.yes("P24 50 and 25", twice.isSure(0, 0, 0, 0));
        twice.painter(4, 4, 4, 1);
        Check.no("P24 49 and 25 again", twice.isSure(0, 0, 0, 0));
        Underpaint same = new Underpaint();
        same.painter(5, 5, 5, 5);
        same.painter(5, 5, 5, 5);
        Check.yes("P24 0 is twice 0", same.isSure(5, 5, 5, 5));
        Check.no("P24 as near", same.isSure(5, 5, 5, 6));
    }
}
