/** Pictures that the tests begin with. */
final class Easel {
    static final int SUPPORT = 0;
    static final int GROUND = 1;
    static final int DRAWING = 2;
    static final int PAINT = 3;
    static final int GLAZE = 4;
    static final int VARNISH = 5;
    static final int FILL = 6;
    static final int RETOUCH = 7;
    static final int DIRT = 8;
    static final Class<IllegalArgumentException> ARGUMENT = IllegalArgumentException.class;
    static final Class<IllegalStateException> STATE = IllegalStateException.class;
    static final Class<IndexOutOfBoundsException> INDEX = IndexOutOfBoundsException.class;
    static final Class<UnsupportedOperationException> UNSUPPORTED = UnsupportedOperationException.class;
    static final Class<java.util.NoSuchElementException> NO_ELEMENT = java.util.NoSuchElementException.class;

    private Easel() {
    }

    /** One stuff of each kind; all but the drawing and the paint let heat through. */
    static Underpaint withStuffs() {
        Underpaint u = new Underpaint();
        u.stuff('s', 60, 100, 1, 2, 5, 0, 1500, true);
        u.stuff('g', 90, 100, 4, 3, 6, 1, 1500, true);
        u.stuff('d', 5, 90, 0, 1, 4, 1, 1500, false);
        u.stuff('p', 70, 80, 8, 2, 3, 4, 1704, false);
        u.stuff('z', 30, 30, 1, 4, 2, 3, 1650, true);
        u.stuff('v', 50, 5, 0, 8, 1, 0, 1500, true);
        u.stuff('f', 80, 100, 3, 1, 2, 0, 1900, true);
        u.stuff('r', 50, 100, 1, 5, 1, 0, 1900, true);
        u.stuff('x', 20, 40, 0, 0, 0, 0, 0, true);
        return u;
    }

    static int layAll(Underpaint u, int stuff, int thickness) {
        return u.lay(stuff, thickness, 0, 0, 7, 5);
    }

    static int layAt(Underpaint u, int stuff, int thickness, int x, int y) {
        return u.lay(stuff, thickness, x, y, x, y);
    }

    /** Fills the file with acts that can always be done. */
    static void fillFile(Underpaint u) {
        while (u.acts() < 40) {
            u.glue(7, 5);
        }
    }

    /** All that can be asked of a picture without telling it something. */
    static long print(Underpaint u) {
        long sum = u.checksum();
        for (int y = 0; y < 6; y++) {
            for (int x = 0; x < 8; x++) {
                sum = 31 * sum + u.layers(x, y);
                for (int i = 0; i < u.layers(x, y); i++) {
                    sum = 31 * sum + u.layerAt(x, y, i, 'y');
                }
                sum = 31 * sum + u.guesses(x, y);
            }
        }
        for (int i = 0; i < u.acts(); i++) {
            sum = 31 * sum + u.actAt(i);
        }
        for (int i = 0; i < u.scratches(); i++) {
            for (int j = 0; j < 9; j++) {
                sum = 31 * sum + over(u, i, j);
            }
        }
        return 31 * (31 * (31 * sum + u.year()) + u.scratches()) + u.risk();
    }

    private static int over(Underpaint u, int scratch, int layer) {
        try {
            return u.liesOver(scratch, layer) ? 2 : 1;
        } catch (java.util.NoSuchElementException e) {
            return 0;
        }
    }
}
