import java.util.ArrayList;
import java.util.List;
import java.util.NoSuchElementException;

/**
 * The document once more, told as plainly as it can be and without regard for speed: year by year, place by place,
 * with everything that is read from the stacks worked out anew. ModelTest compares Underpaint with it.
 */
final class Model {
    /** A layer is stuff, thickness, year, tone and yellow. */
    private static final class World {
        final List<List<int[]>> stacks = new ArrayList<>();
        final int[] tired = new int[48];
        final List<int[]> scratches = new ArrayList<>();
        int year = 1600;

        World() {
            for (int i = 0; i < 48; i++) {
                stacks.add(new ArrayList<>());
            }
        }
    }

    private final List<int[]> stuffs = new ArrayList<>();
    private final List<int[]> clashes = new ArrayList<>();
    private final List<int[]> solvents = new ArrayList<>();
    private final List<int[]> legs = new ArrayList<>();
    private final List<int[]> painters = new ArrayList<>();
    private final List<String> ballots = new ArrayList<>();
    private final List<Integer> board = new ArrayList<>();
    private final List<Integer> master = new ArrayList<>();
    /** An act is its letter and its numbers; the legs of a loan follow one another. */
    private final List<int[]> file = new ArrayList<>();
    private final Integer[][] notes = new Integer[300][48];
    private final int[] tested = new int[6];
    private World world = new World();
    private int light = 5;
    private int damp = 50;
    private int original = 1600;
    private boolean signed;

    // A stuff: kind, tone, cover, weight, lamp, hold, fading, year, through.
    private char kind(int stuff) {
        return (char) stuffs.get(stuff)[0];
    }

    boolean isOf(int stuff, char kind) {
        return stuff < stuffs.size() && kind(stuff) == kind;
    }

    private int hold(int stuff) {
        return stuffs.get(stuff)[5];
    }

    private static void argument(boolean fine) {
        if (!fine) {
            throw new IllegalArgumentException();
        }
    }

    private static void index(int i, int size) {
        if (i < 0 || i >= size) {
            throw new IndexOutOfBoundsException();
        }
    }

    private static void element(boolean fine) {
        if (!fine) {
            throw new NoSuchElementException();
        }
    }

    private static void state(boolean fine) {
        if (!fine) {
            throw new IllegalStateException();
        }
    }

    private static void supported(boolean fine) {
        if (!fine) {
            throw new UnsupportedOperationException();
        }
    }

    private static boolean in(int n, int least, int most) {
        return least <= n && n <= most;
    }

    private static boolean isPlace(int x, int y) {
        return in(x, 0, 7) && in(y, 0, 5);
    }

    private List<int[]> at(int x, int y) {
        return world.stacks.get(y * 8 + x);
    }

    private boolean doNotGoTogether(int a, int b) {
        for (int[] pair : clashes) {
            if (pair[0] == a && pair[1] == b || pair[0] == b && pair[1] == a) {
                return true;
            }
        }
        return false;
    }

    public int stuff(char kind, int tone, int cover, int weight, int lamp, int hold, int fading, int year, boolean isThrough) {
        argument(kind == 's' || kind == 'g' || kind == 'd' || kind == 'p' || kind == 'z' || kind == 'v' || kind == 'f'
            || kind == 'r' || kind == 'x');
        argument(in(tone, 0, 99) && in(cover, 1, 100) && in(weight, 0, 9) && in(lamp, 0, 9) && in(hold, 0, 9)
            && in(fading, 0, 9) && in(year, 0, 9999));
        state(stuffs.size() < 12);
        stuffs.add(new int[] {kind, tone, cover, weight, lamp, hold, fading, year, isThrough ? 1 : 0});
        return stuffs.size() - 1;
    }

    public boolean clash(int stuff, int other) {
        index(stuff, stuffs.size());
        index(other, stuffs.size());
        supported(file.isEmpty());
        boolean isNew = !doNotGoTogether(stuff, other);
        clashes.add(new int[] {stuff, other});
        return isNew;
    }

    public int lay(int stuff, int thickness, int left, int top, int right, int bottom) {
        index(stuff, stuffs.size());
        argument(in(thickness, 1, 200));
        argument(isPlace(left, top) && isPlace(right, bottom) && left <= right && top <= bottom);
        return act(new int[] {'l', stuff, thickness, left, top, right, bottom});
    }

    public int layers(int x, int y) {
        argument(isPlace(x, y));
        return at(x, y).size();
    }

    public int layerAt(int x, int y, int layer, char what) {
        argument(isPlace(x, y) && what < 128 && "stycg".indexOf(what) >= 0);
        element(in(layer, 0, at(x, y).size() - 1));
        return at(x, y).get(layer)["stycg".indexOf(what)];
    }

    public int tired(int x, int y) {
        argument(isPlace(x, y));
        return world.tired[y * 8 + x];
    }

    public int light(int light) {
        argument(in(light, 0, 9));
        int before = this.light;
        this.light = light;
        return before;
    }

    public int damp(int damp) {
        argument(in(damp, 0, 99));
        int before = this.damp;
        this.damp = damp;
        return before;
    }

    public int pass(int years) {
        argument(in(years, 1, 50));
        return act(new int[] {'y', years, light, damp});
    }

    public int year() {
        return world.year;
    }

    private static int raySlot(char ray) {
        return ray < 300 ? ray : 0;
    }

    private static boolean isRay(char ray) {
        return ray == 'p' || ray == 'w' || ray == 'h' || ray == 'l' || ray == 'r';
    }

    public int view(char ray, int x, int y) {
        argument(isRay(ray) && isPlace(x, y));
        if (ray != 'r') {
            return seen(ray, at(x, y));
        }
        int most = 0;
        for (int other : beside(x, y)) {
            most = Math.max(most, Math.abs(thickness(world.stacks.get(other)) - thickness(at(x, y))));
        }
        return most;
    }

    private static List<Integer> beside(int x, int y) {
        List<Integer> places = new ArrayList<>();
        for (int i = 0; i < 48; i++) {
            if (Math.abs(i % 8 - x) + Math.abs(i / 8 - y) == 1) {
                places.add(i);
            }
        }
        return places;
    }

    private static int thickness(List<int[]> stack) {
        int sum = 0;
        for (int[] layer : stack) {
            sum += layer[1];
        }
        return sum;
    }

    private int seen(char ray, List<int[]> stack) {
        switch (ray) {
            case 'p':
                return plain(stack);
            case 'w':
                int sum = 0;
                for (int[] layer : stack) {
                    sum += stuffs.get(layer[0])[3] * layer[1];
                }
                return sum / 10;
            case 'h':
                int found = -1;
                for (int[] layer : stack) {
                    if (stuffs.get(layer[0])[8] == 0) {
                        found = layer[0];
                    }
                }
                return found;
            default:
                if (stack.isEmpty()) {
                    return 0;
                }
                int[] topmost = stack.get(stack.size() - 1);
                return Math.min(9, stuffs.get(topmost[0])[4] + topmost[4]);
        }
    }

    private int plain(List<int[]> stack) {
        int left = 100;
        int sum = 0;
        for (int i = stack.size() - 1; i >= 0; i--) {
            int[] layer = stack.get(i);
            int share = Math.min(100, stuffs.get(layer[0])[2] * layer[1] / 20);
            int tone = layer[3];
            if (kind(layer[0]) == 'v') {
                share = Math.min(100, share + layer[4]);
                if (layer[4] > 0) {
                    tone = 40;
                }
            }
            int taken = left * share / 100;
            sum += taken * tone;
            left -= taken;
        }
        return (sum + left * 50) / 100;
    }

    public int note(char ray, int x, int y) {
        int seen = view(ray, x, y);
        notes[ray][y * 8 + x] = seen;
        return seen;
    }

    public int noted(char ray, int x, int y) {
        argument(isRay(ray) && isPlace(x, y));
        element(notes[raySlot(ray)][y * 8 + x] != null);
        return notes[ray][y * 8 + x];
    }

    private boolean isAlike(List<int[]> stack, int place) {
        for (char ray : new char[] {'p', 'w', 'h', 'l'}) {
            Integer noted = notes[ray][place];
            int apart = ray == 'p' || ray == 'w' ? 5 : 0;
            if (noted != null && Math.abs(seen(ray, stack) - noted) > apart) {
                return false;
            }
        }
        return true;
    }

    private List<List<int[]>> allGuesses(int place) {
        List<List<int[]>> possible = new ArrayList<>();
        for (int size = 1; size <= 3; size++) {
            grow(new ArrayList<>(), size, place, possible);
        }
        return possible;
    }

    private void grow(List<int[]> stack, int size, int place, List<List<int[]>> possible) {
        if (stack.size() == size) {
            if (isAlike(stack, place)) {
                possible.add(new ArrayList<>(stack));
            }
            return;
        }
        for (int stuff = 0; stuff < stuffs.size(); stuff++) {
            if (!stack.isEmpty() || kind(stuff) == 's') {
                stack.add(new int[] {stuff, 20, 0, stuffs.get(stuff)[1], 0});
                grow(stack, size, place, possible);
                stack.remove(stack.size() - 1);
            }
        }
    }

    public int guesses(int x, int y) {
        argument(isPlace(x, y));
        return allGuesses(y * 8 + x).size();
    }

    public int guessAt(int x, int y, int number, int layer) {
        argument(isPlace(x, y));
        List<List<int[]>> possible = allGuesses(y * 8 + x);
        element(in(number, 0, possible.size() - 1));
        element(in(layer, 0, possible.get(number).size() - 1));
        return possible.get(number).get(layer)[0];
    }

    public boolean isPossible(int x, int y) {
        argument(isPlace(x, y));
        return isAlike(at(x, y), y * 8 + x);
    }

    public int original(int year) {
        argument(in(year, 0, 9999));
        int before = original;
        original = year;
        return before;
    }

    public int tooYoung(int claimed) {
        argument(in(claimed, 0, 9999));
        int lowest = 12;
        for (List<int[]> stack : world.stacks) {
            for (int[] layer : stack) {
                if (layer[2] <= original && stuffs.get(layer[0])[7] > claimed) {
                    lowest = Math.min(lowest, layer[0]);
                }
            }
        }
        element(lowest < 12);
        return lowest;
    }

    public int ring(int width, boolean isMaster) {
        argument(in(width, 1, 99));
        List<Integer> rings = isMaster ? master : board;
        state(rings.size() < (isMaster ? 60 : 20));
        rings.add(width);
        return rings.size();
    }

    public int boardAt() {
        element(!board.isEmpty() && board.size() <= master.size());
        int best = -1;
        int least = 0;
        for (int place = 0; place <= master.size() - board.size(); place++) {
            int sum = 0;
            for (int i = 0; i < board.size(); i++) {
                sum += Math.abs(board.get(i) - master.get(place + i));
            }
            if (best < 0 || sum < least) {
                best = place;
                least = sum;
            }
        }
        return best;
    }

    private static boolean areHabits(int a, int b, int c, int d) {
        return in(a, 0, 99) && in(b, 0, 99) && in(c, 0, 99) && in(d, 0, 99);
    }

    public int painter(int first, int second, int third, int fourth) {
        argument(areHabits(first, second, third, fourth));
        state(painters.size() < 6);
        painters.add(new int[] {first, second, third, fourth});
        return painters.size() - 1;
    }

    /** The painters' sums of squares times 10 plus their numbers, in order. */
    private List<Integer> nearness(int... told) {
        List<Integer> near = new ArrayList<>();
        for (int i = 0; i < painters.size(); i++) {
            int sum = 0;
            for (int j = 0; j < 4; j++) {
                sum += (told[j] - painters.get(i)[j]) * (told[j] - painters.get(i)[j]);
            }
            near.add(sum * 10 + i);
        }
        java.util.Collections.sort(near);
        return near;
    }

    public int likely(int first, int second, int third, int fourth) {
        argument(areHabits(first, second, third, fourth));
        element(!painters.isEmpty());
        return nearness(first, second, third, fourth).get(0) % 10;
    }

    public boolean isSure(int first, int second, int third, int fourth) {
        argument(areHabits(first, second, third, fourth));
        element(!painters.isEmpty());
        List<Integer> near = nearness(first, second, third, fourth);
        return near.size() == 1 || near.get(1) / 10 >= near.get(0) / 10 * 2;
    }

    public int scratch(int x, int y, int depth) {
        argument(isPlace(x, y) && in(depth, 1, 999));
        return act(new int[] {'s', x, y, depth});
    }

    public int scratches() {
        return world.scratches.size();
    }

    // A scratch: its place, its year, and how many layers were left.
    public boolean liesOver(int scratch, int layer) {
        index(scratch, world.scratches.size());
        int[] s = world.scratches.get(scratch);
        element(in(layer, 0, world.stacks.get(s[0]).size() - 1));
        return layer + 1 > s[2];
    }

    public int later(int scratch, int other) {
        index(scratch, world.scratches.size());
        index(other, world.scratches.size());
        int[] s = world.scratches.get(scratch);
        int[] o = world.scratches.get(other);
        supported(s[0] == o[0]);
        for (int layer = 0; layer < world.stacks.get(s[0]).size(); layer++) {
            if (liesOver(scratch, layer) && !liesOver(other, layer)) {
                return other;
            }
            if (!liesOver(scratch, layer) && liesOver(other, layer)) {
                return scratch;
            }
        }
        throw new UnsupportedOperationException();
    }

    public int solvent(int strength, int reach) {
        argument(in(strength, 1, 9) && in(reach, 1, 20));
        state(solvents.size() < 6);
        solvents.add(new int[] {strength, reach});
        return solvents.size() - 1;
    }

    public int tested(int solvent) {
        index(solvent, solvents.size());
        return tested[solvent];
    }

    public boolean sign() {
        boolean isNew = !signed;
        signed = true;
        return isNew;
    }

    private boolean takes(int solvent, int stuff) {
        char k = kind(stuff);
        return (k == 'v' || k == 'x' || k == 'f' || k == 'r' || k == 'z') && hold(stuff) < solvents.get(solvent)[0];
    }

    private boolean swells(int solvent, int stuff) {
        return (kind(stuff) == 'p' || kind(stuff) == 'z') && hold(stuff) <= solvents.get(solvent)[0];
    }

    public int swab(int solvent, int x, int y, int minutes) {
        index(solvent, solvents.size());
        argument(isPlace(x, y) && in(minutes, 1, 60));
        boolean isHidden = x == 0 || y == 0 || x == 7 || y == 5;
        if (!isHidden && !signed) {
            World before = world;
            world = copy(before);
            int depth = swabOff(new int[] {'w', solvent, x, y, minutes});
            boolean takesGlaze = glaze(at(x, y)) != glaze(before.stacks.get(y * 8 + x));
            world = before;
            supported(depth <= tested[solvent] && !takesGlaze);
        }
        int depth = act(new int[] {'w', solvent, x, y, minutes});
        if (isHidden) {
            tested[solvent] = Math.max(tested[solvent], depth);
        } else {
            signed = false;
        }
        return depth;
    }

    private int glaze(List<int[]> stack) {
        int sum = 0;
        for (int[] layer : stack) {
            sum += kind(layer[0]) == 'z' ? layer[1] : 0;
        }
        return sum;
    }

    private static World copy(World from) {
        World to = new World();
        for (int i = 0; i < 48; i++) {
            for (int[] layer : from.stacks.get(i)) {
                to.stacks.get(i).add(layer.clone());
            }
            to.tired[i] = from.tired[i];
        }
        to.scratches.addAll(from.scratches);
        to.year = from.year;
        return to;
    }

    public int fill(int stuff, int x, int y) {
        index(stuff, stuffs.size());
        argument(kind(stuff) == 'f' && isPlace(x, y));
        return act(new int[] {'f', stuff, x, y});
    }

    public int retouch(int stuff, int x, int y, int tone) {
        index(stuff, stuffs.size());
        argument(kind(stuff) == 'r' && isPlace(x, y) && in(tone, 0, 99));
        return act(new int[] {'r', stuff, x, y, tone});
    }

    private boolean isRetouched(int x, int y) {
        return !at(x, y).isEmpty() && kind(at(x, y).get(at(x, y).size() - 1)[0]) == 'r';
    }

    public boolean isTold(int x, int y) {
        argument(isPlace(x, y));
        element(isRetouched(x, y));
        int n = at(x, y).size();
        if (n == 1) {
            return true;
        }
        return Math.abs(stuffs.get(at(x, y).get(n - 1)[0])[4] - stuffs.get(at(x, y).get(n - 2)[0])[4]) > 1;
    }

    public int comesOff(int x, int y) {
        argument(isPlace(x, y));
        element(isRetouched(x, y));
        int n = at(x, y).size();
        for (int i = 0; i < solvents.size(); i++) {
            if (takes(i, at(x, y).get(n - 1)[0])) {
                if (n == 1 || !takes(i, at(x, y).get(n - 2)[0]) && !swells(i, at(x, y).get(n - 2)[0])) {
                    return i;
                }
            }
        }
        return -1;
    }

    public int glue(int x, int y) {
        argument(isPlace(x, y));
        return act(new int[] {'g', x, y});
    }

    public int threads(int cut) {
        argument(in(cut, 0, 65535));
        int minutes = 0;
        for (int i = 0; i < 16; i++) {
            // Joined from thread 0 on, each one has at most the next one cut still.
            if ((cut >> i & 1) == 1) {
                minutes += (cut >> i + 1 & 1) == 1 ? 2 : 1;
            }
        }
        return minutes;
    }

    public int ballot(char first, char second) {
        argument("leh".indexOf(first) >= 0 && "leh".indexOf(second) >= 0 && first != second);
        state(ballots.size() < 9);
        for (char c : "leh".toCharArray()) {
            if (c != first && c != second) {
                ballots.add("" + first + second + c);
            }
        }
        return ballots.size();
    }

    public char winner() {
        for (char policy : "leh".toCharArray()) {
            int wins = 0;
            for (char other : "leh".toCharArray()) {
                int ahead = 0;
                for (String rank : ballots) {
                    ahead += rank.indexOf(policy) < rank.indexOf(other) ? 1 : 0;
                }
                wins += ahead > ballots.size() - ahead && other != policy ? 1 : 0;
            }
            if (wins == 2) {
                return policy;
            }
        }
        throw new NoSuchElementException();
    }

    public int leg(int shock, int damp) {
        argument(in(shock, 0, 9) && in(damp, 0, 99));
        state(legs.size() < 8);
        legs.add(new int[] {shock, damp});
        return legs.size();
    }

    private int[] loanAct() {
        int[] act = new int[1 + 2 * legs.size()];
        act[0] = 'o';
        for (int i = 0; i < legs.size(); i++) {
            act[1 + 2 * i] = legs.get(i)[0];
            act[2 + 2 * i] = legs.get(i)[1];
        }
        return act;
    }

    public int risk() {
        World before = world;
        world = copy(before);
        int flakes = travel(loanAct());
        world = before;
        return flakes;
    }

    public int lend() {
        supported(!legs.isEmpty());
        int flakes = act(loanAct());
        legs.clear();
        return flakes;
    }

    public int acts() {
        return file.size();
    }

    public char actAt(int act) {
        index(act, file.size());
        return (char) file.get(act)[0];
    }

    private int act(int[] act) {
        World before = world;
        world = copy(before);
        try {
            int answer = perform(act);
            state(file.size() < 40);
            file.add(act);
            before = world;
            return answer;
        } finally {
            world = before;
        }
    }

    private World again(int skipped) {
        World before = world;
        world = new World();
        try {
            for (int i = 0; i < file.size(); i++) {
                if (i != skipped) {
                    perform(file.get(i));
                }
            }
            return world;
        } finally {
            world = before;
        }
    }

    public int takeBack(int act) {
        index(act, file.size());
        world = again(act);
        file.remove(act);
        return file.size();
    }

    /** Does an act on the world, or throws if it cannot be done. */
    private int perform(int[] a) {
        switch (a[0]) {
            case 'l':
                return layBox(a);
            case 'y':
                for (int i = 0; i < a[1]; i++) {
                    oneYear(a[2], a[3]);
                }
                return world.year;
            case 's':
                return scratchOff(a);
            case 'w':
                return swabOff(a);
            case 'f':
                return fillUp(a);
            case 'r':
                return touch(a);
            case 'g':
                int place = a[2] * 8 + a[1];
                world.tired[place] = Math.max(0, world.tired[place] - 30);
                return world.tired[place];
            default:
                return travel(a);
        }
    }

    private void put(List<int[]> stack, int stuff, int thickness) {
        supported(stack.size() < 9);
        stack.add(new int[] {stuff, thickness, world.year, stuffs.get(stuff)[1], 0});
    }

    private int layBox(int[] a) {
        int places = 0;
        for (int x = a[3]; x <= a[5]; x++) {
            for (int y = a[4]; y <= a[6]; y++) {
                put(at(x, y), a[1], a[2]);
                places++;
            }
        }
        return places;
    }

    private void oneYear(int light, int damp) {
        world.year++;
        for (int place = 0; place < 48; place++) {
            List<int[]> stack = world.stacks.get(place);
            for (int i = stack.size() - 1; i >= 0; i--) {
                if (kind(stack.get(i)[0]) != 'v' && kind(stack.get(i)[0]) != 'x') {
                    stack.get(i)[3] = Math.min(99, stack.get(i)[3] + stuffs.get(stack.get(i)[0])[6] * light / 10);
                    break;
                }
            }
            for (int i = 0; i + 1 < stack.size(); i++) {
                if (doNotGoTogether(stack.get(i)[0], stack.get(i + 1)[0])) {
                    stack.get(i)[3] = Math.max(0, stack.get(i)[3] - 1);
                }
            }
            if (!stack.isEmpty()) {
                for (int i = 0; i + 1 < stack.size(); i++) {
                    tire(place, hold(stack.get(i + 1)[0]) < hold(stack.get(i)[0]) ? 1 : 0);
                }
                tire(place, damp > 65 || damp < 35 ? 1 : 0);
                int[] topmost = stack.get(stack.size() - 1);
                if (world.year % 10 == 0 && kind(topmost[0]) == 'v') {
                    topmost[4] = Math.min(99, topmost[4] + 1);
                }
            }
        }
    }

    private void tire(int place, int by) {
        world.tired[place] = Math.min(99, world.tired[place] + by);
    }

    private int scratchOff(int[] a) {
        List<int[]> stack = at(a[1], a[2]);
        supported(!stack.isEmpty());
        // One after another, the thinnest depth of 1 is taken off.
        for (int i = 0; i < a[3] && !stack.isEmpty(); i++) {
            int[] topmost = stack.get(stack.size() - 1);
            if (kind(topmost[0]) == 's' && topmost[1] == 1) {
                break;
            }
            topmost[1]--;
            if (topmost[1] == 0) {
                stack.remove(stack.size() - 1);
            }
        }
        world.scratches.add(new int[] {a[2] * 8 + a[1], world.year, stack.size()});
        return stack.size();
    }

    private int swabOff(int[] a) {
        List<int[]> stack = at(a[2], a[3]);
        int depth = 0;
        for (int left = a[4] * solvents.get(a[1])[1]; left > 0 && !stack.isEmpty(); left--) {
            int[] topmost = stack.get(stack.size() - 1);
            if (!takes(a[1], topmost[0])) {
                break;
            }
            topmost[1]--;
            depth++;
            if (topmost[1] == 0) {
                stack.remove(stack.size() - 1);
            }
        }
        if (!stack.isEmpty() && swells(a[1], stack.get(stack.size() - 1)[0])) {
            tire(a[3] * 8 + a[2], a[4]);
        }
        return depth;
    }

    private int fillUp(int[] a) {
        int greatest = 0;
        for (int place : beside(a[2], a[3])) {
            greatest = Math.max(greatest, thickness(world.stacks.get(place)));
        }
        int own = thickness(at(a[2], a[3]));
        supported(own < greatest);
        put(at(a[2], a[3]), a[1], Math.min(200, greatest - own));
        return Math.min(200, greatest - own);
    }

    private int touch(int[] a) {
        List<int[]> stack = at(a[2], a[3]);
        put(stack, a[1], 5);
        int[] topmost = stack.get(stack.size() - 1);
        int best = 0;
        for (int tone = 0; tone < 100; tone++) {
            topmost[3] = best;
            int gap = Math.abs(plain(stack) - a[4]);
            topmost[3] = tone;
            if (Math.abs(plain(stack) - a[4]) < gap) {
                best = tone;
            }
        }
        topmost[3] = best;
        return plain(stack);
    }

    private int travel(int[] a) {
        int flakes = 0;
        for (int leg = 1; leg + 1 < a.length; leg += 2) {
            for (int place = 0; place < 48; place++) {
                List<int[]> stack = world.stacks.get(place);
                int harm = a[leg] * world.tired[place] / 20 + Math.abs(a[leg + 1] - 50) / 10;
                if (harm >= 10) {
                    world.tired[place] /= 2;
                    if (!stack.isEmpty() && kind(stack.get(stack.size() - 1)[0]) != 's') {
                        stack.remove(stack.size() - 1);
                        flakes++;
                    }
                } else {
                    tire(place, 1);
                }
            }
        }
        return flakes;
    }

    public long checksum() {
        return sum(world);
    }

    private static long sum(World w) {
        long sum = 7;
        for (List<int[]> stack : w.stacks) {
            for (int[] layer : stack) {
                sum = 31 * sum + layer[0] + 13 * layer[1] + 17 * layer[3] + 19 * layer[4];
            }
        }
        for (int tired : w.tired) {
            sum = 31 * sum + tired;
        }
        return sum;
    }

    public float coveredShare() {
        int covered = 0;
        for (List<int[]> stack : world.stacks) {
            covered += stack.isEmpty() ? 0 : 1;
        }
        return (float) covered / 48f;
    }

    public double meanTone() {
        int covered = 0;
        int sum = 0;
        for (List<int[]> stack : world.stacks) {
            if (!stack.isEmpty()) {
                covered++;
                sum += plain(stack);
            }
        }
        if (covered == 0) {
            throw new ArithmeticException();
        }
        return (double) sum / (double) covered;
    }

    public boolean isSound() {
        boolean isSound = sum(again(-1)) == sum(world);
        for (int i = 0; i < 48; i++) {
            isSound = isSound && world.tired[i] <= 99 && world.stacks.get(i).size() <= 9;
        }
        return isSound;
    }
}
