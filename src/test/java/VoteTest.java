/** Promises 39 and 40: ballot, winner. */
final class VoteTest {
    private VoteTest() {
    }

    static void run() {
        ballots();
        arguments();
        allVotes();
    }

    private static Underpaint vote(String... ranks) {
        Underpaint u = new Underpaint();
        for (String rank : ranks) {
            u.ballot(rank.charAt(0), rank.charAt(1));
        }
        return u;
    }

    private static void ballots() {
        Check.fails("P40 no members", Easel.NO_ELEMENT, () -> new Underpaint().winner());
        Check.same("P40 one member", vote("lh").winner(), 'l');
        Check.same("P40 one member", vote("eh").winner(), 'e');
        Check.same("P40 one member", vote("hl").winner(), 'h');
        Check.fails("P40 half is not more", Easel.NO_ELEMENT, () -> vote("lh", "hl").winner());
        Check.fails("P40 round about", Easel.NO_ELEMENT, () -> vote("le", "eh", "hl").winner());
        Check.same("P40 second of all wins", vote("le", "le", "he", "he", "el").winner(), 'e');
        Underpaint u = new Underpaint();
        for (int i = 1; i <= 9; i++) {
            Check.same("P39 members", u.ballot('h', 'e'), i);
        }
        Check.fails("P39 nine", Easel.STATE, () -> u.ballot('h', 'e'));
        Check.fails("P39 argument first", Easel.ARGUMENT, () -> u.ballot('h', 'h'));
        Check.same("P40 all", u.winner(), 'h');
    }

    private static void arguments() {
        Underpaint u = new Underpaint();
        for (char c = 0; c < 300; c++) {
            char bad = c;
            if ("leh".indexOf(bad) < 0) {
                Check.fails("P39 first", Easel.ARGUMENT, () -> u.ballot(bad, 'l'));
                Check.fails("P39 second", Easel.ARGUMENT, () -> u.ballot('l', bad));
            } else {
                Check.fails("P39 the same", Easel.ARGUMENT, () -> u.ballot(bad, bad));
            }
        }
        Check.same("P39 none was counted", u.ballot('l', 'e'), 1);
    }

    /** Each way of up to four members to rank. */
    private static void allVotes() {
        String[] ranks = {"leh", "lhe", "elh", "ehl", "hle", "hel"};
        for (int members = 1; members <= 4; members++) {
            int ways = (int) Math.pow(6, members);
            for (int way = 0; way < ways; way++) {
                Underpaint u = new Underpaint();
                String[] cast = new String[members];
                for (int i = 0, rest = way; i < members; i++, rest /= 6) {
                    cast[i] = ranks[rest % 6];
                    u.ballot(cast[i].charAt(0), cast[i].charAt(1));
                }
                char due = winnerOf(cast);
                char got = ' ';
                try {
                    got = u.winner();
                } catch (java.util.NoSuchElementException e) {
                    got = ' ';
                }
                Check.same("P40 way " + way + " of " + members, got, due);
            }
        }
    }

    private static char winnerOf(String[] cast) {
        for (char policy : "leh".toCharArray()) {
            boolean wins = true;
            for (char other : "leh".toCharArray()) {
                int ahead = 0;
                for (String rank : cast) {
                    if (rank.indexOf(policy) < rank.indexOf(other)) {
                        ahead++;
                    }
                }
                wins = wins && (other == policy || ahead * 2 > cast.length);
            }
            if (wins) {
                return policy;
            }
        }
        return ' ';
    }
}
