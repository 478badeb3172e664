import java.util.Arrays;

/** Relaxed packing with multipliers: see README.md. */
public final class RelaxedSteps {
    public static final int NO_SUCH = -1, BAD_VALUE = -2, BAD_TEXT = -3, TOO_MANY = -4, NOT_POSSIBLE = -5, NONE = -6;
    public static final int FIXED = 0, FALLING = 1, TARGET = 2;

    private static final int ITEMS = 16;
    private static final int DIMENSIONS = 3;
    private static final int BUNDLE = 8;
    private static final int HISTORY = 6;
    private static final int SLOTS = 2;
    private static final int PAD = 80;
    private static final int MOST_WORTH = 999;
    private static final int MOST_SIZE = 99;
    private static final int MOST_LIMIT = 999;
    private static final int FIRST_LIMIT = 50;
    private static final int MOST_MULTIPLIER = 999999;
    private static final int MOST_STEP = 9999;
    private static final int FIRST_STEP = 100;
    private static final int MOST_STEPS = 99;
    private static final int MOST_UNITS = 99;
    private static final int HUNDREDTHS = 100;
    private static final int ABOVE_PRICE = 1000000000;
    private static final int ABOVE_SLOPE = 10000;
    private static final int ORDER_NUMBERS = 4;
    private static final int CHARACTERS = 8;
    private static final int FIRST_CODE = 33;
    private static final int LAST_CODE = 126;

    private final State now = new State();
    private final History history = new History();
    private final State[] slots = new State[SLOTS];
    private final boolean[] saved = new boolean[SLOTS];
    private final Pad pad = new Pad();
    private final Search search = new Search();
    private final int[] multipliersThen = new int[DIMENSIONS];

    public RelaxedSteps() {
        for (int slot = 0; slot < SLOTS; slot++) {
            slots[slot] = new State();
        }
    }

    // ---- changes

    public int item(int worth, int a, int b, int c) {
        history.prepare(now);
        return history.kept(now.addItem(worth, a, b, c));
    }

    public int drop(int item) {
        history.prepare(now);
        return history.kept(now.removeItem(item));
    }

    public int limit(int dimension, int limit) {
        history.prepare(now);
        return history.kept(now.setLimit(dimension, limit));
    }

    public int rule(int rule, int step) {
        history.prepare(now);
        return history.kept(now.setRule(rule, step));
    }

    public int multiplier(int dimension, int hundredths) {
        history.prepare(now);
        return history.kept(now.setMultiplier(dimension, hundredths));
    }

    public int step(int many) {
        history.prepare(now);
        return history.kept(now.makeSteps(many));
    }

    public int repair() {
        history.prepare(now);
        return history.kept(now.keepMended());
    }

    // ---- what there is

    public int ofItem(int item, int what) {
        if (!now.packing.has(item)) {
            return NO_SUCH;
        }
        switch (what) {
            case 0:
                return now.packing.worths[item];
            case 1:
            case 2:
            case 3:
                return now.packing.sizes[what - 1][item];
            case 4:
                return now.packing.price(item, now.multipliers) + ABOVE_PRICE;
            case 5:
                return oneIf(isIn(item, now.relaxedSet()));
            case 6:
                return oneIf(now.hasSolution() && isIn(item, now.solution));
            default:
                return BAD_VALUE;
        }
    }

    public int ofDimension(int dimension, int what) {
        if (!isDimension(dimension)) {
            return NO_SUCH;
        }
        switch (what) {
            case 0:
                return now.packing.limits[dimension];
            case 1:
                return now.multipliers[dimension];
            case 2:
                return now.slope(dimension, now.relaxedSet()) + ABOVE_SLOPE;
            case 3:
                return now.hasSolution() ? now.packing.use(now.solution, dimension) : NONE;
            case 4:
                return now.hasSolution() ? oneIf(now.isTight(dimension)) : NONE;
            default:
                return BAD_VALUE;
        }
    }

    public int bundle(int place) {
        return within(place, 0, now.bundle.count - 1) ? now.bundle.sets[place] : NO_SUCH;
    }

    public int count(int what) {
        switch (what) {
            case 0:
                return now.packing.items;
            case 1:
                return now.rule;
            case 2:
                return now.step;
            case 3:
                return now.relaxedSet();
            case 4:
                return now.hasSolution() ? now.solution : NONE;
            case 5:
                return now.hasSolution() ? now.solutionWorth : NONE;
            case 6:
                return now.bundle.count;
            case 7:
                return now.stepsSince;
            case 8:
                return now.stepsInAll;
            case 9:
                return pad.length;
            case 10:
                return history.count;
            default:
                return BAD_VALUE;
        }
    }

    public long bound(int what) {
        switch (what) {
            case 0:
                return now.packing.boundAt(now.multipliers);
            case 1:
                return now.bestBound;
            case 2:
                return now.bestBound - now.solutionHundredths();
            default:
                return BAD_VALUE;
        }
    }

    // ---- what if; nothing changes

    public long boundThen() {
        now.stepInto(multipliersThen);
        return now.packing.boundAt(multipliersThen);
    }

    public int best(int what) {
        switch (what) {
            case 0:
                return search.greatestWorth(now.packing, 0, 0);
            case 1:
                return search.leastBestSet(now.packing);
            default:
                return BAD_VALUE;
        }
    }

    public int worthOf(int dimension, int units) {
        if (!isDimension(dimension)) {
            return NO_SUCH;
        }
        if (!within(units, 1, MOST_UNITS)) {
            return BAD_VALUE;
        }
        int before = search.greatestWorth(now.packing, dimension, 0);
        return search.greatestWorth(now.packing, dimension, units) - before;
    }

    public int repaired(int set) {
        return set < 0 ? BAD_VALUE : now.packing.mended(set);
    }

    // ---- texts

    public int put(long characters) {
        int many = charactersIn(characters);
        if (many <= 0) {
            return BAD_VALUE;
        }
        if (pad.length + many > PAD) {
            return TOO_MANY;
        }
        for (int behind = many - 1; behind >= 0; behind--) {
            pad.append((char) codeAt(characters, behind));
        }
        return pad.length;
    }

    public int wipe() {
        int before = pad.length;
        pad.length = 0;
        return before;
    }

    public int fault() {
        return pad.firstFault();
    }

    public int carryOut() {
        if (pad.firstFault() != NONE) {
            return BAD_TEXT;
        }
        history.prepare(now);
        pad.rewind();
        int done = 0;
        while (done < PAD && pad.hasMore() && pad.readOrder() && carryOutOrder() >= 0) {
            done++;
        }
        pad.length = 0;
        return history.kept(done);
    }

    // ---- undo, saving

    public int undo() {
        return history.takeBack(now) ? history.count : NOT_POSSIBLE;
    }

    public int save(int slot) {
        if (!within(slot, 0, SLOTS - 1)) {
            return BAD_VALUE;
        }
        slots[slot].copyFrom(now);
        saved[slot] = true;
        return now.packing.items;
    }

    public int restore(int slot) {
        if (!within(slot, 0, SLOTS - 1)) {
            return BAD_VALUE;
        }
        if (!saved[slot]) {
            return NOT_POSSIBLE;
        }
        history.prepare(now);
        now.copyFrom(slots[slot]);
        return history.kept(now.packing.items);
    }

    private int carryOutOrder() {
        int[] numbers = pad.numbers;
        switch (pad.kind) {
            case 'i':
                return now.addItem(numbers[0], numbers[1], numbers[2], numbers[3]);
            case 'l':
                return now.setLimit(numbers[0], numbers[1]);
            case 'r':
                return now.setRule(numbers[0], now.step);
            case 's':
                return now.makeSteps(numbers[0]);
            case 'x':
                return now.keepMended();
            case '-':
                return now.removeItem(numbers[0]);
            default:
                return BAD_TEXT;
        }
    }

    /** How many characters a number holds; 0 if it is none that put() takes. */
    private static int charactersIn(long characters) {
        int many = 0;
        while (many < CHARACTERS && within(codeAt(characters, many), FIRST_CODE, LAST_CODE)) {
            many++;
        }
        // a shift by 64 bits would be one by 0 bits
        boolean nothingAbove = many == CHARACTERS || characters >>> (8 * many) == 0;
        return nothingAbove ? many : 0;
    }

    private static int codeAt(long characters, int behind) {
        return (int) (characters >>> (8 * behind)) & 255;
    }

    private static boolean within(int value, int least, int most) {
        return value >= least && value <= most;
    }

    private static boolean isDimension(int dimension) {
        return within(dimension, 0, DIMENSIONS - 1);
    }

    private static boolean isIn(int item, int set) {
        return (set >> item & 1) == 1;
    }

    private static int oneIf(boolean holds) {
        return holds ? 1 : 0;
    }

    /** The items and the limits, and what sets of items come to. */
    private static final class Packing {
        final int[] worths = new int[ITEMS];
        final int[][] sizes = new int[DIMENSIONS][ITEMS];
        final int[] limits = new int[DIMENSIONS];
        int items = 0;

        Packing() {
            Arrays.fill(limits, FIRST_LIMIT);
        }

        void copyFrom(Packing other) {
            System.arraycopy(other.worths, 0, worths, 0, ITEMS);
            for (int dimension = 0; dimension < DIMENSIONS; dimension++) {
                System.arraycopy(other.sizes[dimension], 0, sizes[dimension], 0, ITEMS);
            }
            System.arraycopy(other.limits, 0, limits, 0, DIMENSIONS);
            items = other.items;
        }

        boolean has(int item) {
            return within(item, 0, items - 1);
        }

        boolean isFull() {
            return items >= ITEMS;
        }

        void append(int worth, int a, int b, int c) {
            if (isFull()) {
                return;
            }
            worths[items] = worth;
            sizes[0][items] = a;
            sizes[1][items] = b;
            sizes[2][items] = c;
            items++;
        }

        void remove(int item) {
            if (!has(item)) {
                return;
            }
            int behind = items - item - 1;
            System.arraycopy(worths, item + 1, worths, item, behind);
            for (int[] row : sizes) {
                System.arraycopy(row, item + 1, row, item, behind);
            }
            items--;
        }

        int worthIn(int set) {
            int sum = 0;
            for (int item = 0; item < items; item++) {
                sum += isIn(item, set) ? worths[item] : 0;
            }
            return sum;
        }

        int use(int set, int dimension) {
            int[] row = sizes[dimension];
            int sum = 0;
            for (int item = 0; item < items; item++) {
                sum += isIn(item, set) ? row[item] : 0;
            }
            return sum;
        }

        boolean fits(int set) {
            for (int dimension = 0; dimension < DIMENSIONS; dimension++) {
                if (use(set, dimension) > limits[dimension]) {
                    return false;
                }
            }
            return true;
        }

        int price(int item, int[] multipliers) {
            int price = HUNDREDTHS * worths[item];
            for (int dimension = 0; dimension < DIMENSIONS; dimension++) {
                price -= multipliers[dimension] * sizes[dimension][item];
            }
            return price;
        }

        int relaxed(int[] multipliers) {
            int set = 0;
            for (int item = 0; item < items; item++) {
                if (price(item, multipliers) > 0) {
                    set |= 1 << item;
                }
            }
            return set;
        }

        long boundAt(int[] multipliers) {
            long sum = 0;
            for (int item = 0; item < items; item++) {
                sum += Math.max(0, price(item, multipliers));
            }
            for (int dimension = 0; dimension < DIMENSIONS; dimension++) {
                sum += (long) multipliers[dimension] * limits[dimension];
            }
            return sum;
        }

        /** The set that a set is repaired to. */
        int mended(int set) {
            int kept = set & ((1 << items) - 1);
            for (int out = 0; out < ITEMS && !fits(kept); out++) {
                kept &= ~(1 << leastForItsSize(kept));
            }
            for (int item = 0; item < items; item++) {
                if (fits(kept | 1 << item)) {
                    kept |= 1 << item;
                }
            }
            return kept;
        }

        /** Asked only of a set that doesn't fit: so there is an item with a size in it. */
        private int leastForItsSize(int set) {
            int least = -1;
            for (int item = 0; item < items; item++) {
                boolean counts = isIn(item, set) && sizeOf(item) > 0;
                if (counts && (least < 0 || goesAheadOf(item, least))) {
                    least = item;
                }
            }
            return Math.max(0, least);
        }

        private boolean goesAheadOf(int a, int b) {
            return worths[a] * sizeOf(b) < worths[b] * sizeOf(a);
        }

        private int sizeOf(int item) {
            return sizes[0][item] + sizes[1][item] + sizes[2][item];
        }
    }

    /** The relaxed sets of the latest steps. */
    private static final class Bundle {
        final int[] sets = new int[BUNDLE];
        int count = 0;

        void copyFrom(Bundle other) {
            System.arraycopy(other.sets, 0, sets, 0, BUNDLE);
            count = other.count;
        }

        void append(int set) {
            takeOut(set);
            if (count >= BUNDLE) {
                takeOut(sets[0]);
            }
            sets[count] = set;
            count++;
        }

        private void takeOut(int set) {
            int kept = 0;
            for (int place = 0; place < count; place++) {
                if (sets[place] != set) {
                    sets[kept] = sets[place];
                    kept++;
                }
            }
            count = kept;
        }
    }

    /** All that a change can change, and that undo() and restore() bring back. */
    private static final class State {
        final Packing packing = new Packing();
        final Bundle bundle = new Bundle();
        final int[] multipliers = new int[DIMENSIONS];
        private final int[] slopes = new int[DIMENSIONS];
        int rule = FIXED;
        int step = FIRST_STEP;
        int solution = 0;
        int solutionWorth = NONE;
        int stepsSince = 0;
        int stepsInAll = 0;
        long bestBound = 0;

        void copyFrom(State other) {
            packing.copyFrom(other.packing);
            bundle.copyFrom(other.bundle);
            System.arraycopy(other.multipliers, 0, multipliers, 0, DIMENSIONS);
            rule = other.rule;
            step = other.step;
            solution = other.solution;
            solutionWorth = other.solutionWorth;
            stepsSince = other.stepsSince;
            stepsInAll = other.stepsInAll;
            bestBound = other.bestBound;
        }

        int addItem(int worth, int a, int b, int c) {
            if (!within(worth, 0, MOST_WORTH) || !isSize(a) || !isSize(b) || !isSize(c)) {
                return BAD_VALUE;
            }
            if (packing.isFull()) {
                return TOO_MANY;
            }
            packing.append(worth, a, b, c);
            bundle.count = 0;
            forget();
            return packing.items - 1;
        }

        int removeItem(int item) {
            if (!packing.has(item)) {
                return NO_SUCH;
            }
            packing.remove(item);
            bundle.count = 0;
            forget();
            return packing.items;
        }

        int setLimit(int dimension, int limit) {
            if (!isDimension(dimension)) {
                return NO_SUCH;
            }
            if (!within(limit, 0, MOST_LIMIT)) {
                return BAD_VALUE;
            }
            int before = packing.limits[dimension];
            packing.limits[dimension] = limit;
            forget();
            return before;
        }

        int setRule(int newRule, int newStep) {
            if (!within(newRule, FIXED, TARGET) || !within(newStep, 1, MOST_STEP)) {
                return BAD_VALUE;
            }
            int before = rule;
            rule = newRule;
            step = newStep;
            return before;
        }

        int setMultiplier(int dimension, int hundredths) {
            if (!isDimension(dimension)) {
                return NO_SUCH;
            }
            if (!within(hundredths, 0, MOST_MULTIPLIER)) {
                return BAD_VALUE;
            }
            int before = multipliers[dimension];
            multipliers[dimension] = hundredths;
            lowerBestBound();
            return before;
        }

        int makeSteps(int many) {
            if (!within(many, 1, MOST_STEPS)) {
                return BAD_VALUE;
            }
            int better = 0;
            for (int made = 0; made < many; made++) {
                bundle.append(relaxedSet());
                stepInto(multipliers);
                stepsSince++;
                stepsInAll++;
                better += oneIf(lowerBestBound());
            }
            return better;
        }

        int keepMended() {
            int set = packing.mended(relaxedSet());
            int worth = packing.worthIn(set);
            if (!hasSolution() || worth > solutionWorth) {
                solution = set;
                solutionWorth = worth;
            }
            return worth;
        }

        boolean hasSolution() {
            return solutionWorth != NONE;
        }

        int solutionHundredths() {
            return hasSolution() ? HUNDREDTHS * solutionWorth : 0;
        }

        boolean isTight(int dimension) {
            return packing.use(solution, dimension) == packing.limits[dimension];
        }

        int relaxedSet() {
            return packing.relaxed(multipliers);
        }

        int slope(int dimension, int relaxed) {
            return packing.use(relaxed, dimension) - packing.limits[dimension];
        }

        /** Puts the multipliers that there are behind one step into a row, which may be that of now. */
        void stepInto(int[] row) {
            int relaxed = relaxedSet();
            long squares = 0;
            for (int dimension = 0; dimension < DIMENSIONS; dimension++) {
                int slope = slope(dimension, relaxed);
                slopes[dimension] = slope;
                squares += slope * slope;
            }
            long length = length(squares);
            for (int dimension = 0; dimension < DIMENSIONS; dimension++) {
                long moved = multipliers[dimension] + length * slopes[dimension];
                row[dimension] = (int) Math.max(0, Math.min(MOST_MULTIPLIER, moved));
            }
        }

        private long length(long squares) {
            switch (rule) {
                case FALLING:
                    return Math.max(1, step / Math.max(1, stepsSince + 1));
                case TARGET:
                    if (squares <= 0) {
                        return 0;
                    }
                    long above = packing.boundAt(multipliers) - solutionHundredths();
                    return Math.max(1, Math.floorDiv(above, squares));
                default:
                    return step;
            }
        }

        private void forget() {
            solution = 0;
            solutionWorth = NONE;
            stepsSince = 0;
            bestBound = packing.boundAt(multipliers);
        }

        private boolean lowerBestBound() {
            long bound = packing.boundAt(multipliers);
            boolean less = bound < bestBound;
            if (less) {
                bestBound = bound;
            }
            return less;
        }

        private static boolean isSize(int size) {
            return within(size, 0, MOST_SIZE);
        }
    }

    /** The true best of all sets that fit: items are decided from the highest number down. */
    private static final class Search {
        private final int[] left = new int[DIMENSIONS];
        private final int[] worthBelow = new int[ITEMS + 1];

        int greatestWorth(Packing packing, int dimension, int more) {
            start(packing);
            if (isDimension(dimension)) {
                left[dimension] += more;
            }
            return greatest(this, packing, packing.items, 0, 0);
        }

        int leastBestSet(Packing packing) {
            int goal = greatestWorth(packing, 0, 0);
            start(packing);
            return least(this, packing, packing.items, goal, 0);
        }

        private void start(Packing packing) {
            System.arraycopy(packing.limits, 0, left, 0, DIMENSIONS);
            worthBelow[0] = 0;
            for (int item = 0; item < packing.items; item++) {
                worthBelow[item + 1] = worthBelow[item] + packing.worths[item];
            }
        }

        /** The greatest worth of all sets that the first items can still complete, or known if that is more. */
        private static int greatest(Search search, Packing packing, int items, int worth, int known) {
            if (!within(items, 1, ITEMS)) {
                return Math.max(known, worth);
            }
            if (worth + search.worthBelow[items] <= known) {
                return known;
            }
            int item = items - 1;
            int found = known;
            if (search.hasRoomFor(packing, item)) {
                search.leave(packing, item, -1);
                found = greatest(search, packing, item, worth + packing.worths[item], found);
                search.leave(packing, item, 1);
            }
            return greatest(search, packing, item, worth, found);
        }

        /** The least set whose missing worth the first items can bring, NO_SUCH if they can't. */
        private static int least(Search search, Packing packing, int items, int missing, int set) {
            if (missing <= 0) {
                return set;
            }
            if (!within(items, 1, ITEMS) || search.worthBelow[items] < missing) {
                return NO_SUCH;
            }
            int item = items - 1;
            int found = least(search, packing, item, missing, set);
            if (found == NO_SUCH && search.hasRoomFor(packing, item)) {
                search.leave(packing, item, -1);
                found = least(search, packing, item, missing - packing.worths[item], set | 1 << item);
                search.leave(packing, item, 1);
            }
            return found;
        }

        private boolean hasRoomFor(Packing packing, int item) {
            for (int dimension = 0; dimension < DIMENSIONS; dimension++) {
                if (packing.sizes[dimension][item] > left[dimension]) {
                    return false;
                }
            }
            return true;
        }

        private void leave(Packing packing, int item, int times) {
            for (int dimension = 0; dimension < DIMENSIONS; dimension++) {
                left[dimension] += times * packing.sizes[dimension][item];
            }
        }
    }

    /** The states before the latest changes: a ring with one place more, for a change that may yet fail. */
    private static final class History {
        private static final int PLACES = HISTORY + 1;
        private final State[] states = new State[PLACES];
        private int next = 0;
        int count = 0;

        History() {
            for (int place = 0; place < PLACES; place++) {
                states[place] = new State();
            }
        }

        void prepare(State now) {
            states[next].copyFrom(now);
        }

        /** Records the state that was prepared, unless the change answers an error; hands the answer on. */
        int kept(int answer) {
            if (answer >= 0) {
                next = (next + 1) % PLACES;
                count = Math.min(HISTORY, count + 1);
            }
            return answer;
        }

        boolean takeBack(State now) {
            if (count <= 0) {
                return false;
            }
            next = (next + PLACES - 1) % PLACES;
            count--;
            now.copyFrom(states[next]);
            return true;
        }
    }

    /** The text, and a reader that goes through its orders. */
    private static final class Pad {
        private static final char NUMBER = 'N', DIGIT = 'D', END = 0;
        private final char[] text = new char[PAD];
        int length = 0;
        private int at = 0;
        char kind = END;
        final int[] numbers = new int[ORDER_NUMBERS];
        private int read = 0;

        void append(char character) {
            if (length < PAD) {
                text[length] = character;
                length++;
            }
        }

        int firstFault() {
            rewind();
            // each order has a character at least
            for (int orders = 0; orders < PAD && readOrder(); orders++) {
                if (!hasMore()) {
                    return NONE;
                }
            }
            return at;
        }

        void rewind() {
            at = 0;
        }

        boolean hasMore() {
            return at < length;
        }

        /** Reads the next order, and ahead of all but the first one a semicolon; stops at a fault. */
        boolean readOrder() {
            if (at > 0 && !readSign(';')) {
                return false;
            }
            kind = here();
            read = 0;
            String shape = shapeOf(kind);
            for (int part = 0; part < shape.length(); part++) {
                if (!readPart(shape.charAt(part))) {
                    return false;
                }
            }
            return !shape.isEmpty();
        }

        private static String shapeOf(char kind) {
            switch (kind) {
                case 'i':
                    return "iN:N,N,N";
                case 'l':
                    return "lD=N";
                case 'r':
                    return "rD";
                case 's':
                    return "sN";
                case 'x':
                    return "x";
                case '-':
                    return "-N";
                default:
                    return "";
            }
        }

        private boolean readPart(char part) {
            switch (part) {
                case NUMBER:
                    return readNumber();
                case DIGIT:
                    return readDigit();
                default:
                    return readSign(part);
            }
        }

        private boolean readSign(char sign) {
            if (here() != sign) {
                return false;
            }
            at++;
            return true;
        }

        private boolean readDigit() {
            int value = digitHere();
            if (!within(value, 0, 2)) {
                return false;
            }
            at++;
            note(value);
            return true;
        }

        private boolean readNumber() {
            int value = digitHere();
            if (value < 0) {
                return false;
            }
            at++;
            // behind a 0 no digit can stand, and a fourth one would be too much
            for (int more = 0; more < 2 && value > 0 && digitHere() >= 0; more++) {
                value = 10 * value + digitHere();
                at++;
            }
            note(value);
            return true;
        }

        private void note(int value) {
            if (read < ORDER_NUMBERS) {
                numbers[read] = value;
                read++;
            }
        }

        private int digitHere() {
            char sign = here();
            return sign >= '0' && sign <= '9' ? sign - '0' : NO_SUCH;
        }

        private char here() {
            return at < length && at < PAD ? text[at] : END;
        }
    }
}
