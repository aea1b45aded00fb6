import java.util.ArrayList;
import java.util.NoSuchElementException;

/** The mending of paintings, as ../shared/DOC.md promises it. */
public final class Underpaint {
    private static final int WIDTH = 8;
    private static final int HEIGHT = 6;
    private static final int PLACES = 48;
    private static final int SIDES = 4;
    private static final int[] SIDE_X = {1, -1, 0, 0};
    private static final int[] SIDE_Y = {0, 0, 1, -1};

    private static final String KINDS = "sgdpzvfrx";
    private static final String SOLUBLE_KINDS = "vxfrz";
    private static final int MOST_STUFFS = 12;
    private static final int MOST_LAYERS = 9;
    private static final int MOST_THICKNESS = 200;
    /** The greatest tone, yellow, tiredness, damp, ring and habit. */
    private static final int MOST = 99;
    private static final int MOST_DIGIT = 9;
    private static final int LAST_YEAR = 9999;
    private static final int FIRST_YEAR = 1600;
    private static final int CALM_DAMP = 50;

    private static final String RAYS = "pwhlr";
    private static final int RAY_COUNT = 5;
    private static final int PLAIN = 0;
    private static final int HEAVY = 1;
    private static final int HEAT = 2;
    private static final int RAKING = 4;

    private static final int MOST_GUESSED = 3;
    private static final int GUESSED_THICKNESS = 20;
    private static final int NEARLY_ALIKE = 5;
    private static final int MOST_BOARD_RINGS = 20;
    private static final int MOST_MASTER_RINGS = 60;
    private static final int MOST_PAINTERS = 6;
    private static final int HABITS = 4;
    private static final int MOST_DEPTH = 999;
    private static final int MOST_SOLVENTS = 6;
    private static final int MOST_REACH = 20;
    private static final int MOST_MINUTES = 60;
    private static final int RETOUCH_THICKNESS = 5;
    private static final int ALL_THREADS = 65535;
    private static final String POLICIES = "leh";
    private static final int POLICY_COUNT = 3;
    private static final int MOST_MEMBERS = 9;
    private static final int MOST_LEGS = 8;
    private static final int MOST_ACTS = 40;
    private static final int MOST_YEARS = 50;
    private static final int NONE = -1;
    /** More than any number that is counted or compared here. */
    private static final int ENDLESS = 1000000000;

    private final ArrayList<Stuff> palette = new ArrayList<Stuff>();
    private final ArrayList<Solvent> shelf = new ArrayList<Solvent>();
    private final ArrayList<Act> file = new ArrayList<Act>();
    private final Notes notes = new Notes();
    private final Dates dates = new Dates();
    private final Votes votes = new Votes();
    private final Loan loan = new Loan();
    /** What acts without a stuff have in its place. */
    private final Stuff noStuff = new Stuff(0, 's');
    private Picture picture = new Picture();
    /** Acts are tried here first where they may fail, or where they must not last. */
    private Picture spare = new Picture();
    private int lightNow = 5;
    private int dampNow = CALM_DAMP;
    private int originalYear = FIRST_YEAR;
    private boolean isSigned;

    public Underpaint() {
    }

    public int stuff(char kind, int tone, int cover, int weight, int lamp, int hold, int fading, int year, boolean isThrough) throws IllegalArgumentException, IllegalStateException {
        demandArgument(KINDS.indexOf(kind) >= 0);
        demandArgument(isWithin(tone, 0, MOST) && isWithin(cover, 1, 100) && isWithin(year, 0, LAST_YEAR));
        demandArgument(isWithin(weight, 0, MOST_DIGIT) && isWithin(lamp, 0, MOST_DIGIT));
        demandArgument(isWithin(hold, 0, MOST_DIGIT) && isWithin(fading, 0, MOST_DIGIT));
        demandRoom(palette.size() < MOST_STUFFS);
        Stuff made = new Stuff(palette.size(), kind);
        made.tone = tone;
        made.cover = cover;
        made.weight = weight;
        made.lamp = lamp;
        made.hold = hold;
        made.fading = fading;
        made.madeFrom = year;
        made.isThrough = isThrough;
        palette.add(made);
        return made.number;
    }

    public boolean clash(int stuff, int other) throws IndexOutOfBoundsException, UnsupportedOperationException {
        demandIndex(stuff, palette.size());
        demandIndex(other, palette.size());
        demandPossible(file.isEmpty());
        Stuff one = palette.get(stuff);
        Stuff two = palette.get(other);
        if (one.clashesWith(two)) {
            return false;
        }
        one.setClash(two);
        two.setClash(one);
        return true;
    }

    public int lay(int stuff, int thickness, int left, int top, int right, int bottom) throws IndexOutOfBoundsException, IllegalArgumentException, UnsupportedOperationException, IllegalStateException {
        demandIndex(stuff, palette.size());
        demandArgument(isWithin(thickness, 1, MOST_THICKNESS));
        demandArgument(isPlace(left, top) && isPlace(right, bottom) && left <= right && top <= bottom);
        Act act = new Act('l', palette.get(stuff), thickness, left, top);
        act.right = right;
        act.bottom = bottom;
        return enter(act);
    }

    public int layers(int x, int y) throws IllegalArgumentException {
        demandPlace(x, y);
        return picture.at(x, y).size;
    }

    public int layerAt(int x, int y, int layer, char what) throws IllegalArgumentException, NoSuchElementException {
        demandPlace(x, y);
        demandArgument(what == 's' || what == 't' || what == 'y' || what == 'c' || what == 'g');
        Stack stack = picture.at(x, y);
        demandElement(isWithin(layer, 0, stack.size - 1));
        return stack.rows[layer].tell(what);
    }

    public int tired(int x, int y) throws IllegalArgumentException {
        demandPlace(x, y);
        return picture.at(x, y).tiredness;
    }

    public int light(int light) throws IllegalArgumentException {
        demandArgument(isWithin(light, 0, MOST_DIGIT));
        int before = lightNow;
        lightNow = light;
        return before;
    }

    public int damp(int damp) throws IllegalArgumentException {
        demandArgument(isWithin(damp, 0, MOST));
        int before = dampNow;
        dampNow = damp;
        return before;
    }

    public int pass(int years) throws IllegalArgumentException, IllegalStateException {
        demandArgument(isWithin(years, 1, MOST_YEARS));
        Act act = new Act('y', noStuff, years, 0, 0);
        act.light = lightNow;
        act.damp = dampNow;
        return enter(act);
    }

    public int year() {
        return picture.yearNow;
    }

    public int view(char ray, int x, int y) throws IllegalArgumentException {
        demandRayAndPlace(ray, x, y);
        return picture.see(RAYS.indexOf(ray), x, y);
    }

    public int note(char ray, int x, int y) throws IllegalArgumentException {
        demandRayAndPlace(ray, x, y);
        int seen = picture.see(RAYS.indexOf(ray), x, y);
        notes.keep(RAYS.indexOf(ray), placeOf(x, y), seen);
        return seen;
    }

    public int noted(char ray, int x, int y) throws IllegalArgumentException, NoSuchElementException {
        demandRayAndPlace(ray, x, y);
        demandElement(notes.has(RAYS.indexOf(ray), placeOf(x, y)));
        return notes.read(RAYS.indexOf(ray), placeOf(x, y));
    }

    public int guesses(int x, int y) throws IllegalArgumentException {
        demandPlace(x, y);
        return notes.countGuesses(palette, placeOf(x, y), ENDLESS);
    }

    public int guessAt(int x, int y, int number, int layer) throws IllegalArgumentException, NoSuchElementException {
        demandPlace(x, y);
        demandElement(number >= 0);
        demandElement(notes.countGuesses(palette, placeOf(x, y), number) > number);
        Stack guess = notes.guess;
        demandElement(isWithin(layer, 0, guess.size - 1));
        return guess.rows[layer].stuff.number;
    }

    public boolean isPossible(int x, int y) throws IllegalArgumentException {
        demandPlace(x, y);
        return notes.match(placeOf(x, y), picture.at(x, y));
    }

    public int original(int year) throws IllegalArgumentException {
        demandArgument(isWithin(year, 0, LAST_YEAR));
        int before = originalYear;
        originalYear = year;
        return before;
    }

    public int tooYoung(int claimed) throws IllegalArgumentException, NoSuchElementException {
        demandArgument(isWithin(claimed, 0, LAST_YEAR));
        int youngest = NONE;
        for (int number = palette.size() - 1; number >= 0; number--) {
            Stuff stuff = palette.get(number);
            if (stuff.madeFrom > claimed && picture.hasOriginal(stuff, originalYear)) {
                youngest = number;
            }
        }
        demandElement(youngest != NONE);
        return youngest;
    }

    public int ring(int width, boolean isMaster) throws IllegalArgumentException, IllegalStateException {
        demandArgument(isWithin(width, 1, MOST));
        Rings rings = isMaster ? dates.master : dates.board;
        demandRoom(rings.size < rings.widths.length);
        return rings.add(width);
    }

    public int boardAt() throws NoSuchElementException {
        demandElement(dates.board.size > 0 && dates.board.size <= dates.master.size);
        return dates.bestPlace();
    }

    public int painter(int first, int second, int third, int fourth) throws IllegalArgumentException, IllegalStateException {
        demandHabits(first, second, third, fourth);
        demandRoom(dates.painters < MOST_PAINTERS);
        return dates.addPainter(first, second, third, fourth);
    }

    public int likely(int first, int second, int third, int fourth) throws IllegalArgumentException, NoSuchElementException {
        demandHabits(first, second, third, fourth);
        demandElement(dates.painters > 0);
        dates.compare(first, second, third, fourth);
        return dates.nearest(NONE);
    }

    public boolean isSure(int first, int second, int third, int fourth) throws IllegalArgumentException, NoSuchElementException {
        demandHabits(first, second, third, fourth);
        demandElement(dates.painters > 0);
        dates.compare(first, second, third, fourth);
        return dates.isNearestSure();
    }

    public int scratch(int x, int y, int depth) throws IllegalArgumentException, UnsupportedOperationException, IllegalStateException {
        demandPlace(x, y);
        demandArgument(isWithin(depth, 1, MOST_DEPTH));
        return enter(new Act('s', noStuff, depth, x, y));
    }

    public int scratches() {
        return picture.scratchCount;
    }

    public boolean liesOver(int scratch, int layer) throws IndexOutOfBoundsException, NoSuchElementException {
        demandIndex(scratch, picture.scratchCount);
        demandElement(isWithin(layer, 0, picture.scratched(scratch).size - 1));
        return layer >= picture.layersLeft[scratch];
    }

    public int later(int scratch, int other) throws IndexOutOfBoundsException, UnsupportedOperationException {
        demandIndex(scratch, picture.scratchCount);
        demandIndex(other, picture.scratchCount);
        demandPossible(picture.areAtOnePlace(scratch, other));
        int left = picture.layersLeft[scratch];
        int otherLeft = picture.layersLeft[other];
        // The layer that tells the order stands on the layers left by the one and among those left by the other.
        demandPossible(left != otherLeft && picture.scratched(scratch).size > Math.min(left, otherLeft));
        return left > otherLeft ? scratch : other;
    }

    public int solvent(int strength, int reach) throws IllegalArgumentException, IllegalStateException {
        demandArgument(isWithin(strength, 1, MOST_DIGIT) && isWithin(reach, 1, MOST_REACH));
        demandRoom(shelf.size() < MOST_SOLVENTS);
        shelf.add(new Solvent(strength, reach));
        return shelf.size() - 1;
    }

    public int tested(int solvent) throws IndexOutOfBoundsException {
        demandIndex(solvent, shelf.size());
        return shelf.get(solvent).testedDepth;
    }

    public boolean sign() {
        boolean wasSigned = isSigned;
        isSigned = true;
        return !wasSigned;
    }

    public int swab(int solvent, int x, int y, int minutes) throws IndexOutOfBoundsException, IllegalArgumentException, UnsupportedOperationException, IllegalStateException {
        demandIndex(solvent, shelf.size());
        demandPlace(x, y);
        demandArgument(isWithin(minutes, 1, MOST_MINUTES));
        Solvent used = shelf.get(solvent);
        Act act = new Act('w', noStuff, minutes, x, y);
        act.strength = used.strength;
        act.reach = used.reach;
        demandPossible(isHidden(x, y) || isSigned || isHarmless(used, act));
        int depth = enter(act);
        if (isHidden(x, y)) {
            used.testedDepth = Math.max(used.testedDepth, depth);
        } else {
            isSigned = false;
        }
        return depth;
    }

    public int fill(int stuff, int x, int y) throws IndexOutOfBoundsException, IllegalArgumentException, UnsupportedOperationException, IllegalStateException {
        demandIndex(stuff, palette.size());
        demandArgument(palette.get(stuff).kind == 'f');
        demandPlace(x, y);
        return enter(new Act('f', palette.get(stuff), 0, x, y));
    }

    public int retouch(int stuff, int x, int y, int tone) throws IndexOutOfBoundsException, IllegalArgumentException, UnsupportedOperationException, IllegalStateException {
        demandIndex(stuff, palette.size());
        demandArgument(palette.get(stuff).kind == 'r' && isWithin(tone, 0, MOST));
        demandPlace(x, y);
        return enter(new Act('r', palette.get(stuff), tone, x, y));
    }

    public boolean isTold(int x, int y) throws IllegalArgumentException, NoSuchElementException {
        demandPlace(x, y);
        Stack stack = picture.at(x, y);
        demandElement(stack.isTopmost('r'));
        return stack.size < 2 || Math.abs(stack.top().stuff.lamp - stack.belowTop().stuff.lamp) >= 2;
    }

    public int comesOff(int x, int y) throws IllegalArgumentException, NoSuchElementException {
        demandPlace(x, y);
        Stack stack = picture.at(x, y);
        demandElement(stack.isTopmost('r'));
        for (int i = 0; i < shelf.size(); i++) {
            if (stack.losesTopAlone(shelf.get(i).strength)) {
                return i;
            }
        }
        return NONE;
    }

    public int glue(int x, int y) throws IllegalArgumentException, IllegalStateException {
        demandPlace(x, y);
        return enter(new Act('g', noStuff, 0, x, y));
    }

    public int threads(int cut) throws IllegalArgumentException {
        demandArgument(isWithin(cut, 0, ALL_THREADS));
        // Of two neighbours that are cut, the one joined first counts the other. Joined from one end of a gap to the
        // other, no thread counts two; as a square is no less than its root, no order does better.
        return Integer.bitCount(cut) + Integer.bitCount(cut & (cut >> 1));
    }

    public int ballot(char first, char second) throws IllegalArgumentException, IllegalStateException {
        int one = POLICIES.indexOf(first);
        int two = POLICIES.indexOf(second);
        demandArgument(one >= 0 && two >= 0 && one != two);
        demandRoom(votes.members < MOST_MEMBERS);
        return votes.add(one, two);
    }

    public char winner() throws NoSuchElementException {
        int best = votes.best();
        demandElement(best != NONE);
        return POLICIES.charAt(best);
    }

    public int leg(int shock, int damp) throws IllegalArgumentException, IllegalStateException {
        demandArgument(isWithin(shock, 0, MOST_DIGIT) && isWithin(damp, 0, MOST));
        demandRoom(loan.size < MOST_LEGS);
        return loan.add(shock, damp);
    }

    public int risk() {
        spare.copyFrom(picture);
        return spare.travel(loan);
    }

    public int lend() throws UnsupportedOperationException, IllegalStateException {
        Act act = new Act('o', noStuff, 0, 0, 0);
        act.loan.copyFrom(loan);
        int flakes = enter(act);
        loan.size = 0;
        return flakes;
    }

    public int acts() {
        return file.size();
    }

    public char actAt(int act) throws IndexOutOfBoundsException {
        demandIndex(act, file.size());
        return (char) file.get(act).letter;
    }

    public int takeBack(int act) throws IndexOutOfBoundsException, UnsupportedOperationException {
        demandIndex(act, file.size());
        demandPossible(redoAllBut(act));
        file.remove(act);
        Picture old = picture;
        picture = spare;
        spare = old;
        return file.size();
    }

    public long checksum() {
        return picture.sumUp();
    }

    public float coveredShare() {
        return (float) picture.covered() / (float) PLACES;
    }

    public double meanTone() throws ArithmeticException {
        int covered = picture.covered();
        demandCovered(covered > 0);
        return (double) picture.tonesSeen() / (double) covered;
    }

    public boolean isSound() {
        return redoAllBut(NONE) && spare.isSameAs(picture) && picture.isBounded();
    }

    /** All acts go through here, and through the same two calls again in redoAllBut, so that they end alike. */
    private int enter(Act act) {
        demandPossible(picture.canBear(act));
        demandRoom(file.size() < MOST_ACTS);
        file.add(act);
        return picture.perform(act);
    }

    /** Works on the spare picture, as the picture must stay if one of the acts cannot be done. */
    private boolean redoAllBut(int skipped) {
        spare.empty();
        for (int i = 0; i < file.size(); i++) {
            if (i != skipped) {
                if (!spare.canBear(file.get(i))) {
                    return false;
                }
                spare.perform(file.get(i));
            }
        }
        return true;
    }

    private boolean isHarmless(Solvent used, Act swab) {
        Stack stack = picture.at(swab.left, swab.top);
        int depth = stack.soluble(swab.strength, swab.amount * swab.reach);
        return depth <= used.testedDepth && !stack.hasGlazeDownTo(depth);
    }

    private static boolean isWithin(int number, int least, int most) {
        return number >= least && number <= most;
    }

    private static boolean isPlace(int x, int y) {
        return x >= 0 && x < WIDTH && y >= 0 && y < HEIGHT;
    }

    private static int placeOf(int x, int y) {
        return y * WIDTH + x;
    }

    private static boolean isHidden(int x, int y) {
        return x == 0 || x == WIDTH - 1 || y == 0 || y == HEIGHT - 1;
    }

    private static void demandArgument(boolean isFine) {
        if (!isFine) {
            throw new IllegalArgumentException("out of range, or of no such kind");
        }
    }

    private static void demandPlace(int x, int y) {
        if (!isPlace(x, y)) {
            throw new IllegalArgumentException("no such place");
        }
    }

    private static void demandRayAndPlace(char ray, int x, int y) {
        if (RAYS.indexOf(ray) < 0 || !isPlace(x, y)) {
            throw new IllegalArgumentException("no such ray or place");
        }
    }

    private static void demandHabits(int first, int second, int third, int fourth) {
        demandArgument(isWithin(first, 0, MOST) && isWithin(second, 0, MOST));
        demandArgument(isWithin(third, 0, MOST) && isWithin(fourth, 0, MOST));
    }

    private static void demandIndex(int index, int size) {
        if (index < 0 || index >= size) {
            throw new IndexOutOfBoundsException("no such number");
        }
    }

    private static void demandElement(boolean isThere) {
        if (!isThere) {
            throw new NoSuchElementException("there is none");
        }
    }

    private static void demandPossible(boolean isPossible) {
        if (!isPossible) {
            throw new UnsupportedOperationException("this cannot be done");
        }
    }

    private static void demandRoom(boolean hasRoom) {
        if (!hasRoom) {
            throw new IllegalStateException("there is no room for more");
        }
    }

    private static void demandCovered(boolean isCovered) {
        if (!isCovered) {
            throw new ArithmeticException("no place has a layer");
        }
    }

    private static final class Stuff {
        final int number;
        final char kind;
        int tone;
        int cover;
        int weight;
        int lamp;
        int hold;
        int fading;
        int madeFrom;
        boolean isThrough;
        /** A bit for each stuff that this one does not go together with. */
        private int foes;

        Stuff(int number, char kind) {
            this.number = number;
            this.kind = kind;
        }

        boolean clashesWith(Stuff other) {
            return ((foes >> other.number) & 1) != 0;
        }

        void setClash(Stuff other) {
            foes |= 1 << other.number;
        }

        boolean isTakenBy(int strength) {
            return hold < strength && SOLUBLE_KINDS.indexOf(kind) >= 0;
        }

        boolean swellsBy(int strength) {
            return hold <= strength && (kind == 'p' || kind == 'z');
        }
    }

    private static final class Layer {
        Stuff stuff;
        int thickness;
        int laidIn;
        int tone;
        int yellow;

        Layer(Stuff blank) {
            stuff = blank;
        }

        int tell(char what) {
            if (what == 's') {
                return stuff.number;
            }
            if (what == 't') {
                return thickness;
            }
            if (what == 'y') {
                return laidIn;
            }
            return what == 'c' ? tone : yellow;
        }

        /** The hundredths that it takes of what is left; none but varnish is ever yellow. */
        int share() {
            int share = stuff.cover * thickness / 20 + yellow;
            return share > 100 ? 100 : share;
        }

        int seenTone() {
            return yellow > 0 ? 40 : tone;
        }

        /** Each year it gets lighter first, then darker: at the bounds of tones this is not the same as the sum. */
        void shift(int years, int lighter, int darker) {
            for (int i = 0; i < years; i++) {
                tone = Math.min(MOST, tone + lighter);
                tone = Math.max(0, tone - darker);
            }
        }

        void copyFrom(Layer other) {
            stuff = other.stuff;
            thickness = other.thickness;
            laidIn = other.laidIn;
            tone = other.tone;
            yellow = other.yellow;
        }

        boolean isSameAs(Layer other) {
            return stuff.number == other.stuff.number && thickness == other.thickness && laidIn == other.laidIn
                && tone == other.tone && yellow == other.yellow;
        }
    }

    /** The layers of one place, and how tired it is. */
    private static final class Stack {
        final Layer[] rows = new Layer[MOST_LAYERS];
        int size;
        int tiredness;

        Stack(Stuff blank) {
            for (int i = 0; i < MOST_LAYERS; i++) {
                rows[i] = new Layer(blank);
            }
        }

        void put(Stuff stuff, int thickness, int laidIn) {
            if (size < MOST_LAYERS) {
                Layer layer = rows[size];
                layer.stuff = stuff;
                layer.thickness = thickness;
                layer.laidIn = laidIn;
                layer.tone = stuff.tone;
                layer.yellow = 0;
                size++;
            }
        }

        boolean isFull() {
            return size >= MOST_LAYERS;
        }

        Layer top() {
            return rows[size > 0 ? size - 1 : 0];
        }

        Layer belowTop() {
            return rows[size > 1 ? size - 2 : 0];
        }

        boolean isTopmost(char kind) {
            return size > 0 && top().stuff.kind == kind;
        }

        int height() {
            int sum = 0;
            for (int i = 0; i < size; i++) {
                sum += rows[i].thickness;
            }
            return sum;
        }

        int see(int ray) {
            if (ray == PLAIN) {
                return plain();
            }
            if (ray == HEAVY) {
                return heavy();
            }
            return ray == HEAT ? heat() : lampLight();
        }

        int plain() {
            int left = 100;
            int sum = 0;
            for (int i = size - 1; i >= 0; i--) {
                int taken = left * rows[i].share() / 100;
                sum += taken * rows[i].seenTone();
                left -= taken;
            }
            return (sum + left * 50) / 100;
        }

        private int heavy() {
            int sum = 0;
            for (int i = 0; i < size; i++) {
                sum += rows[i].stuff.weight * rows[i].thickness;
            }
            return sum / 10;
        }

        private int heat() {
            for (int i = size - 1; i >= 0; i--) {
                if (!rows[i].stuff.isThrough) {
                    return rows[i].stuff.number;
                }
            }
            return NONE;
        }

        private int lampLight() {
            return size > 0 ? Math.min(MOST_DIGIT, top().stuff.lamp + top().yellow) : 0;
        }

        void tire(int amount) {
            tiredness = Math.min(MOST, tiredness + amount);
        }

        /** No layer's tone hangs on another's: each goes through all the years by itself. */
        void age(int years, int light) {
            int fadingRow = fadingRow();
            for (int i = 0; i < size; i++) {
                Stuff stuff = rows[i].stuff;
                int lighter = i == fadingRow ? stuff.fading * light / 10 : 0;
                int darker = i + 1 < size && stuff.clashesWith(rows[i + 1].stuff) ? 1 : 0;
                if (lighter + darker > 0) {
                    rows[i].shift(years, lighter, darker);
                }
            }
        }

        private int fadingRow() {
            for (int i = size - 1; i >= 0; i--) {
                if (rows[i].stuff.kind != 'v' && rows[i].stuff.kind != 'x') {
                    return i;
                }
            }
            return NONE;
        }

        void wear(int years, int damp) {
            int yearly = Math.abs(damp - CALM_DAMP) > 15 ? 1 : 0;
            for (int i = 1; i < size; i++) {
                if (rows[i].stuff.hold < rows[i - 1].stuff.hold) {
                    yearly++;
                }
            }
            if (size > 0) {
                tire(yearly * years);
            }
        }

        void turnYellow(int amount) {
            if (isTopmost('v')) {
                top().yellow = Math.min(MOST, top().yellow + amount);
            }
        }

        /** Takes off whole layers, and what is left of the depth of the next one; a support ends it. */
        void takeOff(int depth) {
            int left = depth;
            for (int i = size - 1; i >= 0 && left > 0; i--) {
                Layer layer = rows[i];
                if (layer.stuff.kind == 's') {
                    layer.thickness = Math.max(1, layer.thickness - left);
                    left = 0;
                } else if (layer.thickness > left) {
                    layer.thickness -= left;
                    left = 0;
                } else {
                    left -= layer.thickness;
                    size--;
                }
            }
        }

        /** How deep a solvent goes that can take off so much. */
        int soluble(int strength, int most) {
            int depth = 0;
            for (int i = size - 1; i >= 0 && depth < most; i--) {
                if (!rows[i].stuff.isTakenBy(strength)) {
                    return depth;
                }
                depth = Math.min(most, depth + rows[i].thickness);
            }
            return depth;
        }

        boolean hasGlazeDownTo(int depth) {
            int above = 0;
            for (int i = size - 1; i >= 0 && above < depth; i--) {
                if (rows[i].stuff.kind == 'z') {
                    return true;
                }
                above += rows[i].thickness;
            }
            return false;
        }

        /** Whether a solvent takes the topmost layer, and leaves the one below as it is. */
        boolean losesTopAlone(int strength) {
            if (size == 0 || !top().stuff.isTakenBy(strength)) {
                return false;
            }
            Stuff below = belowTop().stuff;
            return size < 2 || !below.isTakenBy(strength) && !below.swellsBy(strength);
        }

        /** Bears one leg of a loan; returns how many layers flake off. */
        int bear(int shock, int damp) {
            int harm = shock * tiredness / 20 + Math.abs(damp - CALM_DAMP) / 10;
            if (harm < 10) {
                tire(1);
                return 0;
            }
            tiredness = tiredness / 2;
            if (size == 0 || isTopmost('s')) {
                return 0;
            }
            size--;
            return 1;
        }

        boolean hasOriginal(Stuff stuff, int year) {
            for (int i = 0; i < size; i++) {
                if (rows[i].stuff.number == stuff.number && rows[i].laidIn <= year) {
                    return true;
                }
            }
            return false;
        }

        void copyFrom(Stack other) {
            size = other.size;
            tiredness = other.tiredness;
            for (int i = 0; i < size; i++) {
                rows[i].copyFrom(other.rows[i]);
            }
        }

        boolean isSameAs(Stack other) {
            if (size != other.size || tiredness != other.tiredness) {
                return false;
            }
            for (int i = 0; i < size; i++) {
                if (!rows[i].isSameAs(other.rows[i])) {
                    return false;
                }
            }
            return true;
        }
    }

    /** All that acts change, and nothing else, so that it can be made anew from the file. */
    private static final class Picture {
        private final Stack[] stacks = new Stack[PLACES];
        private final int[] scratchPlaces = new int[MOST_ACTS];
        final int[] layersLeft = new int[MOST_ACTS];
        int scratchCount;
        int yearNow = FIRST_YEAR;

        Picture() {
            Stuff blank = new Stuff(0, 's');
            for (int i = 0; i < PLACES; i++) {
                stacks[i] = new Stack(blank);
            }
        }

        /** The caller knows that there is such a place. */
        Stack at(int x, int y) {
            return stacks[placeOf(x, y)];
        }

        Stack scratched(int scratch) {
            return stacks[scratchPlaces[scratch]];
        }

        boolean areAtOnePlace(int scratch, int other) {
            return scratchPlaces[scratch] == scratchPlaces[other];
        }

        int see(int ray, int x, int y) {
            return ray == RAKING ? raking(x, y) : at(x, y).see(ray);
        }

        private int raking(int x, int y) {
            int own = at(x, y).height();
            int most = 0;
            for (int i = 0; i < SIDES; i++) {
                if (isPlace(x + SIDE_X[i], y + SIDE_Y[i])) {
                    int step = at(x + SIDE_X[i], y + SIDE_Y[i]).height() - own;
                    most = Math.max(most, Math.abs(step));
                }
            }
            return most;
        }

        /** 0 or less if the place is not lower than those about it. */
        private int missing(int x, int y) {
            int highest = 0;
            for (int i = 0; i < SIDES; i++) {
                if (isPlace(x + SIDE_X[i], y + SIDE_Y[i])) {
                    highest = Math.max(highest, at(x + SIDE_X[i], y + SIDE_Y[i]).height());
                }
            }
            return Math.min(MOST_THICKNESS, highest - at(x, y).height());
        }

        boolean canBear(Act act) {
            Stack stack = at(act.left, act.top);
            switch (act.letter) {
                case 'l':
                    return hasRoom(act);
                case 's':
                    return stack.size > 0;
                case 'f':
                    return missing(act.left, act.top) > 0 && !stack.isFull();
                case 'r':
                    return !stack.isFull();
                case 'o':
                    return act.loan.size > 0;
                default:
                    return true;
            }
        }

        /** Returns what the act's call answers. */
        int perform(Act act) {
            switch (act.letter) {
                case 'l':
                    return layBox(act);
                case 'y':
                    return age(act);
                case 's':
                    return scratchOff(act);
                case 'w':
                    return swabOff(act);
                case 'f':
                    return fillUp(act);
                case 'r':
                    return touch(act);
                case 'g':
                    return glueDown(act);
                default:
                    return travel(act.loan);
            }
        }

        private boolean hasRoom(Act act) {
            for (int y = act.top; y <= act.bottom; y++) {
                for (int x = act.left; x <= act.right; x++) {
                    if (at(x, y).isFull()) {
                        return false;
                    }
                }
            }
            return true;
        }

        private int layBox(Act act) {
            int places = 0;
            for (int y = act.top; y <= act.bottom; y++) {
                for (int x = act.left; x <= act.right; x++) {
                    at(x, y).put(act.stuff, act.amount, yearNow);
                    places++;
                }
            }
            return places;
        }

        private int age(Act act) {
            int before = yearNow;
            yearNow += act.amount;
            for (int i = 0; i < PLACES; i++) {
                stacks[i].age(act.amount, act.light);
                stacks[i].wear(act.amount, act.damp);
                stacks[i].turnYellow(yearNow / 10 - before / 10);
            }
            return yearNow;
        }

        private int scratchOff(Act act) {
            Stack stack = at(act.left, act.top);
            stack.takeOff(act.amount);
            if (scratchCount < MOST_ACTS) {
                scratchPlaces[scratchCount] = placeOf(act.left, act.top);
                layersLeft[scratchCount] = stack.size;
                scratchCount++;
            }
            return stack.size;
        }

        private int swabOff(Act act) {
            Stack stack = at(act.left, act.top);
            int depth = stack.soluble(act.strength, act.amount * act.reach);
            stack.takeOff(depth);
            if (stack.size > 0 && stack.top().stuff.swellsBy(act.strength)) {
                stack.tire(act.amount);
            }
            return depth;
        }

        private int fillUp(Act act) {
            int thickness = missing(act.left, act.top);
            at(act.left, act.top).put(act.stuff, thickness, yearNow);
            return thickness;
        }

        private int touch(Act act) {
            Stack stack = at(act.left, act.top);
            stack.put(act.stuff, RETOUCH_THICKNESS, yearNow);
            int best = 0;
            int bestGap = ENDLESS;
            for (int tone = 0; tone <= MOST; tone++) {
                stack.top().tone = tone;
                int gap = Math.abs(stack.plain() - act.amount);
                if (gap < bestGap) {
                    best = tone;
                    bestGap = gap;
                }
            }
            stack.top().tone = best;
            return stack.plain();
        }

        private int glueDown(Act act) {
            Stack stack = at(act.left, act.top);
            stack.tiredness = Math.max(0, stack.tiredness - 30);
            return stack.tiredness;
        }

        int travel(Loan loan) {
            int flakes = 0;
            for (int i = 0; i < loan.size; i++) {
                for (int place = 0; place < PLACES; place++) {
                    flakes += stacks[place].bear(loan.shocks[i], loan.damps[i]);
                }
            }
            return flakes;
        }

        boolean hasOriginal(Stuff stuff, int year) {
            for (int i = 0; i < PLACES; i++) {
                if (stacks[i].hasOriginal(stuff, year)) {
                    return true;
                }
            }
            return false;
        }

        int covered() {
            int places = 0;
            for (int i = 0; i < PLACES; i++) {
                if (stacks[i].size > 0) {
                    places++;
                }
            }
            return places;
        }

        int tonesSeen() {
            int sum = 0;
            for (int i = 0; i < PLACES; i++) {
                if (stacks[i].size > 0) {
                    sum += stacks[i].plain();
                }
            }
            return sum;
        }

        long sumUp() {
            long sum = 7;
            for (int place = 0; place < PLACES; place++) {
                for (int i = 0; i < stacks[place].size; i++) {
                    Layer layer = stacks[place].rows[i];
                    sum = 31 * sum + layer.stuff.number + 13 * layer.thickness + 17 * layer.tone + 19 * layer.yellow;
                }
            }
            for (int place = 0; place < PLACES; place++) {
                sum = 31 * sum + stacks[place].tiredness;
            }
            return sum;
        }

        boolean isBounded() {
            for (int i = 0; i < PLACES; i++) {
                if (stacks[i].tiredness > MOST || stacks[i].size > MOST_LAYERS) {
                    return false;
                }
            }
            return true;
        }

        void empty() {
            yearNow = FIRST_YEAR;
            scratchCount = 0;
            for (int i = 0; i < PLACES; i++) {
                stacks[i].size = 0;
                stacks[i].tiredness = 0;
            }
        }

        void copyFrom(Picture other) {
            yearNow = other.yearNow;
            scratchCount = other.scratchCount;
            for (int i = 0; i < scratchCount; i++) {
                scratchPlaces[i] = other.scratchPlaces[i];
                layersLeft[i] = other.layersLeft[i];
            }
            for (int i = 0; i < PLACES; i++) {
                stacks[i].copyFrom(other.stacks[i]);
            }
        }

        boolean isSameAs(Picture other) {
            if (yearNow != other.yearNow || scratchCount != other.scratchCount) {
                return false;
            }
            for (int i = 0; i < scratchCount; i++) {
                if (scratchPlaces[i] != other.scratchPlaces[i] || layersLeft[i] != other.layersLeft[i]) {
                    return false;
                }
            }
            for (int i = 0; i < PLACES; i++) {
                if (!stacks[i].isSameAs(other.stacks[i])) {
                    return false;
                }
            }
            return true;
        }
    }

    /** Keeps all that is needed to do it again, as light, damp and loan may be others by then. */
    private static final class Act {
        final int letter;
        final Stuff stuff;
        /** The thickness, the years, the depth, the minutes or the tone that is wanted. */
        final int amount;
        final int left;
        final int top;
        int right;
        int bottom;
        int strength;
        int reach;
        int light;
        int damp;
        final Loan loan = new Loan();

        Act(char letter, Stuff stuff, int amount, int left, int top) {
            this.letter = letter;
            this.stuff = stuff;
            this.amount = amount;
            this.left = left;
            this.top = top;
        }
    }

    private static final class Loan {
        final int[] shocks = new int[MOST_LEGS];
        final int[] damps = new int[MOST_LEGS];
        int size;

        int add(int shock, int damp) {
            if (size < MOST_LEGS) {
                shocks[size] = shock;
                damps[size] = damp;
                size++;
            }
            return size;
        }

        void copyFrom(Loan other) {
            size = other.size;
            for (int i = 0; i < size; i++) {
                shocks[i] = other.shocks[i];
                damps[i] = other.damps[i];
            }
        }
    }

    private static final class Solvent {
        final int strength;
        final int reach;
        int testedDepth;

        Solvent(int strength, int reach) {
            this.strength = strength;
            this.reach = reach;
        }
    }

    /** The last view that was noted, of each ray and place, and the guesses that follow. */
    private static final class Notes {
        private final boolean[] isNoted = new boolean[RAY_COUNT * PLACES];
        private final int[] seen = new int[RAY_COUNT * PLACES];
        /** The guess that was looked at last. */
        final Stack guess = new Stack(new Stuff(0, 's'));
        private int possible;

        void keep(int ray, int place, int value) {
            isNoted[ray * PLACES + place] = true;
            seen[ray * PLACES + place] = value;
        }

        boolean has(int ray, int place) {
            return isNoted[ray * PLACES + place];
        }

        int read(int ray, int place) {
            return seen[ray * PLACES + place];
        }

        /** Whether a stack would be seen as it was noted; raking light tells of places beside, so it does not count. */
        boolean match(int place, Stack stack) {
            for (int ray = PLAIN; ray < RAKING; ray++) {
                int allowed = ray <= HEAVY ? NEARLY_ALIKE : 0;
                if (has(ray, place) && Math.abs(stack.see(ray) - read(ray, place)) > allowed) {
                    return false;
                }
            }
            return true;
        }

        /** Counts the possible guesses in their order, but no further than the one with the number last. */
        int countGuesses(ArrayList<Stuff> palette, int place, int last) {
            possible = 0;
            for (int size = 1; size <= MOST_GUESSED; size++) {
                for (int lowest = 0; lowest < palette.size(); lowest++) {
                    if (palette.get(lowest).kind == 's') {
                        countUpward(palette, size, lowest, place, last);
                    }
                }
            }
            return possible;
        }

        private void countUpward(ArrayList<Stuff> palette, int size, int lowest, int place, int last) {
            int middles = size > 1 ? palette.size() : 1;
            int highests = size > 2 ? palette.size() : 1;
            for (int middle = 0; middle < middles; middle++) {
                for (int highest = 0; highest < highests && possible <= last; highest++) {
                    build(palette, size, lowest, middle, highest);
                    if (match(place, guess)) {
                        possible++;
                    }
                }
            }
        }

        private void build(ArrayList<Stuff> palette, int size, int lowest, int middle, int highest) {
            guess.size = 0;
            guess.put(palette.get(lowest), GUESSED_THICKNESS, FIRST_YEAR);
            if (size > 1) {
                guess.put(palette.get(middle), GUESSED_THICKNESS, FIRST_YEAR);
            }
            if (size > 2) {
                guess.put(palette.get(highest), GUESSED_THICKNESS, FIRST_YEAR);
            }
        }
    }

    private static final class Rings {
        final int[] widths;
        int size;

        Rings(int most) {
            widths = new int[most];
        }

        int add(int width) {
            if (size < widths.length) {
                widths[size] = width;
                size++;
            }
            return size;
        }
    }

    /** What tells when and by whom: the rings and the painters' habits. */
    private static final class Dates {
        final Rings board = new Rings(MOST_BOARD_RINGS);
        final Rings master = new Rings(MOST_MASTER_RINGS);
        int painters;
        private final int[] habits = new int[MOST_PAINTERS * HABITS];
        /** For each painter, the sum of squares of the last comparison. */
        private final int[] squares = new int[MOST_PAINTERS];

        int bestPlace() {
            int best = 0;
            int least = ENDLESS;
            for (int place = 0; place + board.size <= master.size; place++) {
                int sum = 0;
                for (int i = 0; i < board.size; i++) {
                    sum += Math.abs(board.widths[i] - master.widths[place + i]);
                }
                if (sum < least) {
                    best = place;
                    least = sum;
                }
            }
            return best;
        }

        int addPainter(int first, int second, int third, int fourth) {
            int number = painters;
            if (number < MOST_PAINTERS) {
                habits[number * HABITS] = first;
                habits[number * HABITS + 1] = second;
                habits[number * HABITS + 2] = third;
                habits[number * HABITS + 3] = fourth;
                painters++;
            }
            return number;
        }

        void compare(int first, int second, int third, int fourth) {
            for (int i = 0; i < painters; i++) {
                squares[i] = square(first - habits[i * HABITS]) + square(second - habits[i * HABITS + 1])
                    + square(third - habits[i * HABITS + 2]) + square(fourth - habits[i * HABITS + 3]);
            }
        }

        private static int square(int number) {
            return number * number;
        }

        int nearest(int skipped) {
            int best = NONE;
            int least = ENDLESS;
            for (int i = 0; i < painters; i++) {
                if (i != skipped && squares[i] < least) {
                    best = i;
                    least = squares[i];
                }
            }
            return best;
        }

        boolean isNearestSure() {
            int best = nearest(NONE);
            int next = nearest(best);
            return best == NONE || next == NONE || squares[next] >= 2 * squares[best];
        }
    }

    private static final class Votes {
        int members;
        /** For each policy, and each other one, how many members rank it ahead. */
        private final int[] ahead = new int[POLICY_COUNT * POLICY_COUNT];

        /** The policies are 0, 1 and 2: the third one is what is left of their sum. */
        int add(int first, int second) {
            int third = 3 - first - second;
            ahead[first * POLICY_COUNT + second]++;
            ahead[first * POLICY_COUNT + third]++;
            ahead[second * POLICY_COUNT + third]++;
            members++;
            return members;
        }

        int best() {
            for (int policy = 0; policy < POLICY_COUNT; policy++) {
                int beaten = 0;
                for (int other = 0; other < POLICY_COUNT; other++) {
                    if (2 * ahead[policy * POLICY_COUNT + other] > members) {
                        beaten++;
                    }
                }
                if (beaten == POLICY_COUNT - 1) {
                    return policy;
                }
            }
            return NONE;
        }
    }
}
