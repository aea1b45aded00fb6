import java.util.List;

/** What the tests of bounds need: calls that are refused and change nothing, and pictures that are full. */
final class Edge {
    /** The exceptions that the document names: any other one is thrown by the machine. */
    private static final List<String> DUE = List.of("IllegalArgumentException", "IllegalStateException",
        "IndexOutOfBoundsException", "UnsupportedOperationException", "NoSuchElementException", "ArithmeticException");
    private static final int[][] LOOKED_AT = {{0, 0}, {3, 3}, {7, 5}};

    private Edge() {
    }

    interface Maker {
        Underpaint make();
    }

    interface Call {
        void on(Underpaint u);
    }

    interface Question {
        Object of(Underpaint u);
    }

    /** The call throws what is due, and whatever is asked or told afterwards is answered as if it had not been made. */
    static void refused(String what, Class<? extends RuntimeException> due, Maker maker, Call call) {
        Underpaint asked = maker.make();
        Check.fails(what, due, () -> call.on(asked));
        String got = everything(asked);
        String want = everything(maker.make());
        Check.tell(got.equals(want), what + " changes nothing", got, want);
    }

    /** All that a picture answers, some 200 calls; it is another one afterwards, but alike for two that are alike. */
    static String everything(Underpaint u) {
        StringBuilder s = new StringBuilder();
        ask(s, u, v -> v.checksum());
        ask(s, u, v -> v.year());
        ask(s, u, v -> v.risk());
        ask(s, u, v -> v.isSound());
        for (int i = 0; i < u.acts(); i++) {
            s.append(u.actAt(i));
        }
        for (int i = 0; i < Math.min(4, u.scratches()); i++) {
            int scratch = i;
            ask(s, u, v -> v.liesOver(scratch, 0));
            ask(s, u, v -> v.liesOver(scratch, 1));
            ask(s, u, v -> v.later(0, scratch));
        }
        for (int[] place : LOOKED_AT) {
            look(s, u, place[0], place[1]);
        }
        for (int i = 0; i < 6; i++) {
            int solvent = i;
            ask(s, u, v -> v.tested(solvent));
        }
        tellAll(s, u);
        return s.toString();
    }

    private static void look(StringBuilder s, Underpaint u, int x, int y) {
        for (int i = 0; i < u.layers(x, y); i++) {
            s.append(' ').append(u.layerAt(x, y, i, 'y'));
        }
        for (char ray : "pwhlr".toCharArray()) {
            ask(s, u, v -> v.noted(ray, x, y));
        }
        ask(s, u, v -> v.guesses(x, y));
        ask(s, u, v -> v.isTold(x, y));
        ask(s, u, v -> v.comesOff(x, y));
    }

    /** What can only be learnt by telling something, as most of it answers how many there are. */
    private static void tellAll(StringBuilder s, Underpaint u) {
        ask(s, u, v -> v.scratches());
        ask(s, u, v -> v.sign());
        ask(s, u, v -> v.light(2));
        ask(s, u, v -> v.damp(77));
        ask(s, u, v -> v.tooYoung(1600));
        ask(s, u, v -> v.original(1700));
        ask(s, u, v -> v.boardAt());
        ask(s, u, v -> v.ring(1, false));
        ask(s, u, v -> v.ring(1, true));
        ask(s, u, v -> v.likely(50, 50, 50, 50));
        ask(s, u, v -> v.isSure(50, 50, 50, 50));
        ask(s, u, v -> v.painter(1, 1, 1, 1));
        ask(s, u, v -> v.winner());
        ask(s, u, v -> v.ballot('l', 'e'));
        ask(s, u, v -> v.leg(9, 99));
        ask(s, u, v -> v.risk());
        ask(s, u, v -> v.solvent(1, 1));
        ask(s, u, v -> v.clash(0, 1));
        ask(s, u, v -> v.stuff('s', 0, 1, 0, 0, 0, 0, 0, true));
        ask(s, u, v -> v.pass(1));
        ask(s, u, v -> v.checksum());
    }

    private static void ask(StringBuilder s, Underpaint u, Question question) {
        s.append(' ');
        try {
            s.append(question.of(u));
        } catch (RuntimeException e) {
            String name = e.getClass().getSimpleName();
            Check.tell(DUE.contains(name), "an exception of the document", name, DUE.toString());
            s.append(name);
        }
    }

    /** Nine layers at 3, 3, and one at each of the places about it. */
    static Underpaint nineLayers() {
        Underpaint u = Easel.withStuffs();
        u.lay(Easel.GROUND, 20, 2, 2, 4, 4);
        for (int i = 0; i < 8; i++) {
            Easel.layAt(u, Easel.DRAWING, 1, 3, 3);
        }
        return u;
    }

    /** 39 acts, with a solvent, layers to work on, and a leg of a loan. */
    static Underpaint almostFullFile() {
        Underpaint u = Easel.withStuffs();
        u.solvent(9, 20);
        u.leg(0, 50);
        Easel.layAll(u, Easel.GROUND, 20);
        Easel.layAt(u, Easel.PAINT, 40, 3, 3);
        while (u.acts() < 39) {
            u.glue(7, 5);
        }
        return u;
    }

    static Underpaint fullFile() {
        Underpaint u = almostFullFile();
        u.glue(7, 5);
        return u;
    }

    /** One stuff of a kind, which covers all; told are its hold, its fading and its lamp. */
    static int stuffOf(Underpaint u, char kind, int hold, int fading, int lamp) {
        return u.stuff(kind, 50, 100, 0, lamp, hold, fading, 1500, true);
    }
}
