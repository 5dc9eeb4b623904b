import java.util.Arrays;

/**
 * Rules of fusion: sorts that are put together and give sorts, so many of each.
 *
 * <p>What each call promises stands in DOC.md. All rows are made in the constructor and used
 * again, so that no call makes an object.
 */
public final class FusionRules {
    public static final int NONE = -1, BAD = -2, STATE = -3, FULL = -4, NOT = -5;
    public static final long NO = Long.MIN_VALUE;

    private static final int NOTHING = -11;
    private static final int BEYOND = -13;
    private static final int BELOW = -14;
    private static final int FAULTS = -100;

    private static final int SORTS = 5;
    private static final int PAIRS = SORTS * SORTS;
    private static final int TRIPLES = PAIRS * SORTS;
    private static final int ELEMENTS = 4;
    private static final int MOST_OFTEN = 9;
    private static final int MOST_IN_ELEMENT = 999;
    private static final int PLAN_ROWS = 8;
    private static final int TAPE_BYTES = 60;
    /** Five TERMS of three figures and a letter, and four signs between them. */
    private static final int PAPER_BYTES = 24;
    private static final int LISTS = 4;
    private static final int LIST_PLACES = 12;
    private static final int PRIME = 31;

    private static final int TOLD = 0;
    private static final int CYCLE = 1;
    private static final int LADDER = 2;
    private static final int HOUSE = 3;
    private static final int NEAR = 4;

    private final Held held = new Held();
    private final Held kept = new Held();
    private boolean imageTaken = false;

    private final Fusion fusion = new Fusion();
    private final Fusion trial = new Fusion();
    private final Characters characters = new Characters();
    private final SquareTables squareTables = new SquareTables();
    /** What is reckoned from the rules is reckoned when it is asked for, and once for the same rules. */
    private boolean fusionKnown = false;
    private boolean charactersKnown = false;

    private final Reader reader = new Reader();
    private final byte[] written = new byte[PAPER_BYTES];
    private int writtenBytes = 0;

    private final long[] listed = new long[LISTS * LIST_PLACES];
    private final int[] listSizes = new int[LISTS];

    private final long[] left = new long[SORTS];
    private final long[] right = new long[SORTS];
    private final long[] result = new long[SORTS];

    public FusionRules() {
        Arrays.fill(listSizes, NOTHING);
    }

    // ---- rules

    public int set(int what, int v) {
        int was = of(what);
        if (was == NONE) {
            return NONE;
        }
        if (!mayBecome(what, v)) {
            return BAD;
        }
        if (what == 0) {
            held.kind = v;
        } else if (what == 1) {
            held.size = v;
        } else {
            held.figure = v;
        }
        forgetRules();
        return was;
    }

    public int of(int what) {
        switch (what) {
            case 0:
                return held.kind;
            case 1:
                return held.size;
            case 2:
                return held.figure;
            default:
                return NONE;
        }
    }

    public int tell(int i, int j, int k, int v) {
        if (!isTold(i, j, k)) {
            return NONE;
        }
        if (v < 0 || v > MOST_OFTEN) {
            return BAD;
        }
        int was = held.told[place(i, j, k)];
        held.told[place(i, j, k)] = v;
        forgetRules();
        return was;
    }

    public int feed(int letter) {
        if (letter < 1 || letter > 127) {
            return BAD;
        }
        if (reader.length >= TAPE_BYTES) {
            return FULL;
        }
        reader.bytes[reader.length] = (byte) letter;
        reader.length++;
        return reader.length;
    }

    public int rules() {
        int answer = reader.readRules(held.size, held.told);
        reader.length = 0;
        forgetRules();
        return answer;
    }

    public int often(int i, int j, int k) {
        return areSorts(i, j, k) ? currentFusion().at(i, j, k) : NONE;
    }

    public int clash(int what) {
        switch (what) {
            case 0:
                return currentFusion().firstClash();
            case 1:
                return currentFusion().firstUnlike();
            default:
                return NONE;
        }
    }

    public int partner(int i) {
        return isSort(i) ? currentFusion().partnerOf(i) : NONE;
    }

    public long power(int i, int m, int k) {
        if (!isSort(i) || !isSort(k) || m < 0 || m > 8) {
            return NO;
        }
        becomeSort(left, 0);
        becomeSort(right, i);
        for (int times = 0; times < m; times++) {
            currentFusion().putTogether(left, right, result);
            System.arraycopy(result, 0, left, 0, SORTS);
        }
        return left[k];
    }

    // ---- elements, sets

    public int element(int element) {
        if (!isElement(element)) {
            return NONE;
        }
        int answer = reader.readElement(held.size);
        reader.length = 0;
        if (answer >= 0) {
            System.arraycopy(reader.sum, 0, held.numbers, element * SORTS, held.size);
        }
        return answer;
    }

    public int has(int element, int sort) {
        return isElement(element) && isSort(sort) ? held.numbers[element * SORTS + sort] : NONE;
    }

    public int give(int element, int sort, int v) {
        int was = has(element, sort);
        if (was == NONE) {
            return NONE;
        }
        if (v < 0 || v > MOST_IN_ELEMENT) {
            return BAD;
        }
        held.numbers[element * SORTS + sort] = v;
        return was;
    }

    public int together(int one, int other) {
        if (!isElement(one) || !isElement(other)) {
            return NONE;
        }
        becomeElement(left, one);
        becomeElement(right, other);
        currentFusion().putTogether(left, right, result);
        for (int k = 0; k < held.size; k++) {
            if (result[k] > MOST_IN_ELEMENT) {
                return STATE;
            }
        }
        int all = 0;
        for (int k = 0; k < held.size; k++) {
            held.numbers[one * SORTS + k] = (int) result[k];
            all += (int) result[k];
        }
        return all;
    }

    public int closed(int set) {
        if (!isSet(set)) {
            return BAD;
        }
        return currentFusion().isClosed(set) ? 1 : 0;
    }

    public int closedSet(int i) {
        int found = 0;
        for (int candidate = 0; candidate < 1 << held.size; candidate++) {
            if (currentFusion().isClosed(candidate)) {
                if (found == i) {
                    return candidate;
                }
                found++;
            }
        }
        return i == -1 ? found : NOT;
    }

    public int hull(int set) {
        return isSet(set) ? currentFusion().leastClosed(set) : BAD;
    }

    // ---- characters

    public int character(int i, int k) {
        if (i == -1) {
            return currentCharacters().found;
        }
        if (i >= 0 && !isSort(k)) {
            return NONE;
        }
        Characters all = currentCharacters();
        return all.isThere(i) ? all.numberOf(i, k) : NOT;
    }

    public int squares(int i) {
        Characters all = currentCharacters();
        if (!all.isThere(i)) {
            return NOT;
        }
        int sum = 0;
        for (int k = 0; k < held.size; k++) {
            int number = all.numberOf(i, k);
            sum += number * number;
        }
        return sum % PRIME;
    }

    public int back(int i, int j, int k) {
        if (!areSorts(i, j, k)) {
            return NONE;
        }
        Characters all = currentCharacters();
        if (all.found != held.size) {
            return STATE;
        }
        int[] table = squareTables.product;
        all.copyTo(table, held.size);
        if (!squareTables.invert(table, held.size)) {
            return STATE;
        }
        int sum = 0;
        for (int m = 0; m < held.size; m++) {
            sum += table[i * SORTS + m] * table[j * SORTS + m] * squareTables.inverse[m * SORTS + k];
        }
        return sum % PRIME;
    }

    // ---- two tables

    public int table(int i, int m, int v) {
        if (!isOfFive(i) || !isOfFive(m)) {
            return NONE;
        }
        if (v < 0 || v >= PRIME) {
            return BAD;
        }
        int was = held.first[i * SORTS + m];
        held.first[i * SORTS + m] = v;
        return was;
    }

    public int twist(int i, int v) {
        if (!isOfFive(i)) {
            return NONE;
        }
        if (v < 0 || v >= PRIME) {
            return BAD;
        }
        int was = held.twists[i];
        held.twists[i] = v;
        return was;
    }

    public int fill() {
        Characters all = currentCharacters();
        if (all.found != held.size) {
            return STATE;
        }
        all.copyTo(held.first, held.size);
        return held.size;
    }

    public int given(int i, int j, int k) {
        if (!areSorts(i, j, k)) {
            return NONE;
        }
        int[] table = held.first;
        if (!squareTables.invert(table, held.size)) {
            return STATE;
        }
        int sum = 0;
        for (int m = 0; m < held.size; m++) {
            int below = inverseOf(table[m]);
            if (below == 0) {
                return STATE;
            }
            int above = table[i * SORTS + m] * table[j * SORTS + m] * squareTables.inverse[m * SORTS + k];
            sum += above % PRIME * below;
        }
        return sum % PRIME;
    }

    public int law(int which) {
        switch (which) {
            case 0:
                return squareTables.squareIsShuffle(held.first, held.size) ? 1 : 0;
            case 1:
                return squareTables.cubeIsSquare(held.first, held.twists, held.size) ? 1 : 0;
            default:
                return NONE;
        }
    }

    // ---- small lists, numbers that were, odds

    public int small(int b, int i) {
        if (b < 0 || b > 3) {
            return BAD;
        }
        int found = 0;
        int base = b + 1;
        for (int row = 0; row < base * base * base * base; row++) {
            int s = row % base;
            int r = row / base % base;
            int q = row / base / base % base;
            int p = row / base / base / base;
            trial.becomeSmall(p, q, r, s);
            if (trial.firstClash() == NOT) {
                if (found == i) {
                    return 1000 * p + 100 * q + 10 * r + s;
                }
                found++;
            }
        }
        return i == -1 ? found : NOT;
    }

    public int were(int i, int j, int k) {
        if (!isTold(i, j, k)) {
            return NONE;
        }
        trial.becomeRules(held);
        boolean counts = held.kind == TOLD && areSorts(i, j, k);
        int bits = 0;
        for (int v = 0; v <= MOST_OFTEN; v++) {
            if (counts) {
                trial.often[place(i, j, k)] = v;
                trial.often[place(j, i, k)] = v;
            }
            if (trial.firstClash() == NOT) {
                bits |= 1 << v;
            } else if (!counts) {
                return 0;
            }
        }
        return bits;
    }

    public long odds(int k, int m, int seed, int q, int part) {
        if (!isSort(k) || m < 1 || m > 12 || q < 1 || q > 30 || part < 0 || part > 1) {
            return NO;
        }
        int hits = 0;
        for (int more = 0; more < q; more++) {
            hits += currentFusion().drawn(seed + more, m) >> k & 1;
        }
        int shared = greatestShared(hits, q);
        if (shared < 1) {
            return NO;
        }
        return part == 0 ? hits / shared : q / shared;
    }

    // ---- plans, written

    public int plan(int what, int v) {
        if (what == -1) {
            held.rows = 0;
            return 0;
        }
        if (what < 0 || what > 2) {
            return NONE;
        }
        if (v < 0 || v > (what == 2 ? 9 : SORTS - 1)) {
            return BAD;
        }
        if (held.rows >= PLAN_ROWS) {
            return FULL;
        }
        held.planWhat[held.rows] = what;
        held.planBy[held.rows] = v;
        held.rows++;
        return held.rows;
    }

    public int ends(int element, int sort) {
        if (!isElement(element) || !isSort(sort)) {
            return NONE;
        }
        becomeElement(left, element);
        for (int row = 0; row < held.rows; row++) {
            doRow(held.planWhat[row], held.planBy[row]);
        }
        return (int) left[sort];
    }

    public int write(int element) {
        if (!isElement(element)) {
            return NONE;
        }
        writtenBytes = 0;
        for (int sort = 0; sort < held.size; sort++) {
            int number = held.numbers[element * SORTS + sort];
            if (number > 0) {
                writeTerm(number, sort);
            }
        }
        if (writtenBytes == 0) {
            writeByte('0');
        }
        return writtenBytes;
    }

    public int paper(int i) {
        return i >= 0 && i < writtenBytes ? written[i] : NONE;
    }

    // ---- lists, the image

    public int judge(int list, int i, int j) {
        if (!isList(list) || !isSort(i) || !isSort(j)) {
            return NONE;
        }
        if (listSizes[list] < 0) {
            return NOTHING;
        }
        for (int k = 0; k < listSizes[list]; k++) {
            int due = isSort(k) ? currentFusion().at(i, j, k) : 0;
            if (listed[list * LIST_PLACES + k] != due) {
                return k;
            }
        }
        return NOT;
    }

    public int list(int list, int n) {
        if (!isList(list)) {
            return NONE;
        }
        if (n > LIST_PLACES) {
            return BAD;
        }
        if (n < 0) {
            return BELOW;
        }
        listSizes[list] = n;
        for (int i = 0; i < n; i++) {
            listed[list * LIST_PLACES + i] = 0;
        }
        return 1;
    }

    public int put(int list, int i, long v) {
        if (!isList(list)) {
            return NONE;
        }
        if (listSizes[list] < 0) {
            return NOTHING;
        }
        if (i < 0 || i >= listSizes[list]) {
            return BEYOND;
        }
        listed[list * LIST_PLACES + i] = v;
        return 1;
    }

    public long get(int list, int i) {
        if (!isList(list) || i < 0 || i >= listSizes[list]) {
            return NO;
        }
        return listed[list * LIST_PLACES + i];
    }

    public int image() {
        kept.becomeLike(held);
        imageTaken = true;
        return held.size;
    }

    public int undo() {
        if (!imageTaken) {
            return STATE;
        }
        held.becomeLike(kept);
        forgetRules();
        return held.size;
    }

    public int count(int what) {
        switch (what) {
            case 0:
                return notZero(held.told);
            case 1:
                return notZero(held.numbers);
            case 2:
                return reader.length;
            case 3:
                return writtenBytes;
            case 4:
                return held.rows;
            default:
                return BAD;
        }
    }

    // ---- what is asked of arguments

    private static boolean isOfFive(int i) {
        return i >= 0 && i < SORTS;
    }

    private static boolean isTold(int i, int j, int k) {
        return i > 0 && j > 0 && isOfFive(i) && isOfFive(j) && isOfFive(k);
    }

    private static boolean isElement(int i) {
        return i >= 0 && i < ELEMENTS;
    }

    private static boolean isList(int i) {
        return i >= 0 && i < LISTS;
    }

    private static boolean mayBecome(int what, int v) {
        switch (what) {
            case 0:
                return v >= TOLD && v <= NEAR;
            case 1:
                return v >= 1 && v <= SORTS;
            default:
                return v >= 0 && v <= MOST_OFTEN;
        }
    }

    private boolean isSort(int i) {
        return i >= 0 && i < held.size;
    }

    private boolean areSorts(int i, int j, int k) {
        return isSort(i) && isSort(j) && isSort(k);
    }

    private boolean isSet(int bits) {
        return bits >= 0 && bits < 1 << held.size;
    }

    // ---- what is reckoned from the rules

    private void forgetRules() {
        fusionKnown = false;
        charactersKnown = false;
    }

    private Fusion currentFusion() {
        if (!fusionKnown) {
            fusion.becomeRules(held);
            fusionKnown = true;
        }
        return fusion;
    }

    private Characters currentCharacters() {
        if (!charactersKnown) {
            characters.find(currentFusion());
            charactersKnown = true;
        }
        return characters;
    }

    // ---- rows of numbers of SORTS

    private void becomeSort(long[] row, int sort) {
        Arrays.fill(row, 0L);
        row[sort] = 1;
    }

    private void becomeElement(long[] row, int element) {
        Arrays.fill(row, 0L);
        for (int sort = 0; sort < held.size; sort++) {
            row[sort] = held.numbers[element * SORTS + sort];
        }
    }

    private void doRow(int what, int v) {
        if (what == 0 && isSort(v)) {
            becomeSort(right, v);
            currentFusion().putTogether(left, right, result);
            System.arraycopy(result, 0, left, 0, SORTS);
        } else if (what == 1 && isSort(v)) {
            left[v]++;
        } else if (what == 2) {
            for (int sort = 0; sort < held.size; sort++) {
                left[sort] *= v;
            }
        }
        for (int sort = 0; sort < held.size; sort++) {
            left[sort] = Math.min(left[sort], MOST_IN_ELEMENT);
        }
    }

    private void writeTerm(int number, int sort) {
        if (writtenBytes > 0) {
            writeByte('+');
        }
        if (number >= 100) {
            writeByte('0' + number / 100);
        }
        if (number >= 10) {
            writeByte('0' + number / 10 % 10);
        }
        if (number > 1) {
            writeByte('0' + number % 10);
        }
        writeByte('a' + sort);
    }

    private void writeByte(int letter) {
        if (writtenBytes < PAPER_BYTES) {
            written[writtenBytes] = (byte) letter;
            writtenBytes++;
        }
    }

    // ---- numbers

    private static int place(int i, int j, int k) {
        return i * PAIRS + j * SORTS + k;
    }

    private static int notZero(int[] numbers) {
        int found = 0;
        for (int number : numbers) {
            if (number != 0) {
                found++;
            }
        }
        return found;
    }

    private static int greatestShared(int one, int other) {
        int greater = one;
        int lesser = other;
        // by Euclid the lesser one sinks each time: far fewer steps than its value
        for (int step = 0; step <= other && lesser > 0; step++) {
            int rest = greater % lesser;
            greater = lesser;
            lesser = rest;
        }
        return greater;
    }

    /** The number by which this one gives 1, MODULO 31; 0, if there is none. */
    private static int inverseOf(int number) {
        for (int candidate = 1; candidate < PRIME; candidate++) {
            if (number * candidate % PRIME == 1) {
                return candidate;
            }
        }
        return 0;
    }

    /** All that THE IMAGE keeps. */
    private static final class Held {
        int kind = TOLD;
        int size = 2;
        int figure = 0;
        /** Numbers for i, j, k 0 .. 4; those with ONE as i or j stay 0. */
        final int[] told = new int[TRIPLES];
        final int[] numbers = new int[ELEMENTS * SORTS];
        final int[] first = new int[PAIRS];
        final int[] twists = new int[SORTS];
        final int[] planWhat = new int[PLAN_ROWS];
        final int[] planBy = new int[PLAN_ROWS];
        int rows = 0;

        Held() {
        }

        void becomeLike(Held other) {
            kind = other.kind;
            size = other.size;
            figure = other.figure;
            rows = other.rows;
            System.arraycopy(other.told, 0, told, 0, TRIPLES);
            System.arraycopy(other.numbers, 0, numbers, 0, ELEMENTS * SORTS);
            System.arraycopy(other.first, 0, first, 0, PAIRS);
            System.arraycopy(other.twists, 0, twists, 0, SORTS);
            System.arraycopy(other.planWhat, 0, planWhat, 0, PLAN_ROWS);
            System.arraycopy(other.planBy, 0, planBy, 0, PLAN_ROWS);
        }
    }

    /** How OFTEN each SORT is in what two give, for all SORTS there are. */
    private static final class Fusion {
        int size = 1;
        final int[] often = new int[TRIPLES];

        Fusion() {
        }

        int at(int i, int j, int k) {
            return often[place(i, j, k)];
        }

        void becomeRules(Held held) {
            size = held.size;
            for (int i = 0; i < size; i++) {
                for (int j = 0; j < size; j++) {
                    for (int k = 0; k < size; k++) {
                        often[place(i, j, k)] = oftenByKind(held, i, j, k);
                    }
                }
            }
        }

        private static int oftenByKind(Held held, int i, int j, int k) {
            if (i == 0 || j == 0) {
                return plain(i, j, k);
            }
            int last = held.size - 1;
            switch (held.kind) {
                case CYCLE:
                    return inCycle(held.size, i, j, k);
                case LADDER:
                    return onLadder(last, i, j, k);
                case HOUSE:
                    return inHouse(last, i, j, k);
                case NEAR:
                    return i == last && j == last && k == last ? held.figure : inHouse(last, i, j, k);
                default:
                    return held.told[place(i, j, k)];
            }
        }

        /** i or j is ONE, so that the other one is both together. */
        private static int plain(int i, int j, int k) {
            return k == i + j ? 1 : 0;
        }

        private static int inCycle(int length, int i, int j, int k) {
            int sum = i + j;
            return k == (sum < length ? sum : sum - length) ? 1 : 0;
        }

        private static int onLadder(int last, int i, int j, int k) {
            int apart = Math.abs(i - j);
            int top = Math.min(i + j, 2 * last - i - j);
            return k >= apart && k <= top && (k - apart) % 2 == 0 ? 1 : 0;
        }

        private static int inHouse(int last, int i, int j, int k) {
            if (i == last && j == last) {
                return k == last ? 0 : 1;
            }
            if (i == last || j == last) {
                return k == last ? 1 : 0;
            }
            return inCycle(last, i, j, k);
        }

        /** Rules of SMALL LISTS: x is SORT 1, y is SORT 2. */
        void becomeSmall(int p, int q, int r, int s) {
            size = 3;
            for (int sort = 0; sort < size; sort++) {
                becomeGiven(0, sort, plain(0, sort, 0), plain(0, sort, 1), plain(0, sort, 2));
            }
            becomeGiven(1, 1, 1, p, q);
            becomeGiven(1, 2, 0, q, r);
            becomeGiven(2, 2, 1, r, s);
        }

        private void becomeGiven(int i, int j, int ones, int xs, int ys) {
            often[place(i, j, 0)] = ones;
            often[place(i, j, 1)] = xs;
            often[place(i, j, 2)] = ys;
            often[place(j, i, 0)] = ones;
            often[place(j, i, 1)] = xs;
            often[place(j, i, 2)] = ys;
        }

        /** The first CLASH, or NOT; none has ONE among i, j, k, as ONE changes nothing. */
        int firstClash() {
            for (int i = 1; i < size; i++) {
                for (int j = 1; j < size; j++) {
                    for (int k = 1; k < size; k++) {
                        int l = firstClashOf(i, j, k);
                        if (l < size) {
                            return 1000 * i + 100 * j + 10 * k + l;
                        }
                    }
                }
            }
            return NOT;
        }

        private int firstClashOf(int i, int j, int k) {
            for (int l = 0; l < size; l++) {
                int one = 0;
                int other = 0;
                for (int m = 0; m < size; m++) {
                    one += at(i, j, m) * at(m, k, l);
                    other += at(j, k, m) * at(i, m, l);
                }
                if (one != other) {
                    return l;
                }
            }
            return size;
        }

        int firstUnlike() {
            for (int i = 0; i < size; i++) {
                for (int j = 0; j < size; j++) {
                    for (int k = 0; k < size; k++) {
                        if (at(i, j, k) != at(j, i, k)) {
                            return 10 * i + j;
                        }
                    }
                }
            }
            return NOT;
        }

        int partnerOf(int i) {
            int found = NOT;
            for (int j = 0; j < size; j++) {
                if (at(i, j, 0) > 0) {
                    if (found != NOT || at(i, j, 0) > 1) {
                        return NOT;
                    }
                    found = j;
                }
            }
            return found;
        }

        void putTogether(long[] one, long[] other, long[] both) {
            Arrays.fill(both, 0L);
            for (int i = 0; i < size; i++) {
                for (int j = 0; j < size; j++) {
                    long times = one[i] * other[j];
                    for (int k = 0; times != 0 && k < size; k++) {
                        both[k] += times * at(i, j, k);
                    }
                }
            }
        }

        private int bitsGiven(int i, int j) {
            int bits = 0;
            for (int k = 0; k < size; k++) {
                if (at(i, j, k) > 0) {
                    bits |= 1 << k;
                }
            }
            return bits;
        }

        private int bitsGivenByAll(int some, int j) {
            int bits = 0;
            for (int i = 0; i < size; i++) {
                if ((some >> i & 1) == 1) {
                    bits |= bitsGiven(i, j);
                }
            }
            return bits;
        }

        private int withAllGiven(int some) {
            int bits = some;
            for (int j = 0; j < size; j++) {
                if ((some >> j & 1) == 1) {
                    bits |= bitsGivenByAll(some, j);
                }
            }
            return bits;
        }

        boolean isClosed(int some) {
            return (some & 1) == 1 && withAllGiven(some) == some;
        }

        int leastClosed(int some) {
            int bits = some | 1;
            // each step that changes it brings a SORT, so as many steps as SORTS are enough
            for (int step = 0; step < SORTS; step++) {
                bits = withAllGiven(bits);
            }
            return bits;
        }

        /** The SORTS (bits) that are in so many DRAWN by a SEED; ONE ahead of them changes nothing. */
        int drawn(int seed, int many) {
            int bits = 1;
            int z = seed;
            for (int step = 0; step < many && size > 0; step++) {
                z = z * 1103515245 + 12345;
                bits = bitsGivenByAll(bits, (z >>> 16) % size);
            }
            return bits;
        }
    }

    /**
     * All CHARACTERS of rules. When the numbers of the first SORTS are chosen, all that is asked of
     * them and of the others are equations of the first degree: so a choice that can't go on is
     * seen at once, and no more than a few hundred are tried.
     */
    private static final class Characters {
        int found = 0;
        /** CHARACTERS are never more than SORTS, as they do not depend on one another. */
        private final int[] rows = new int[PAIRS];
        private final int[] chosen = new int[SORTS];
        private final int[] equation = new int[SORTS];
        /**
         * For each depth and each SORT 1 .. 4 an equation, or none (its own factor is 0), that has
         * no later SORT in it and its own one with 1: the sum of factor times number is 0.
         */
        private final int[] known = new int[SORTS * PAIRS];

        Characters() {
        }

        boolean isThere(int i) {
            return i >= 0 && i < found;
        }

        int numberOf(int i, int sort) {
            return rows[i * SORTS + sort];
        }

        /** Number (i, m) of the table becomes that of SORT i in the m-th. */
        void copyTo(int[] table, int size) {
            for (int i = 0; i < size; i++) {
                for (int m = 0; m < size; m++) {
                    table[i * SORTS + m] = numberOf(m, i);
                }
            }
        }

        void find(Fusion fusion) {
            found = 0;
            chosen[0] = 1;
            Arrays.fill(known, 0);
            choose(this, fusion, 1);
        }

        /** Calls itself once for each SORT behind ONE: five levels at most. */
        private static void choose(Characters all, Fusion fusion, int sort) {
            if (sort >= SORTS || sort >= fusion.size) {
                all.keepChosen();
                return;
            }
            for (int number = 0; number < PRIME; number++) {
                System.arraycopy(all.known, (sort - 1) * PAIRS, all.known, sort * PAIRS, PAIRS);
                if (all.goesOn(fusion, sort, number)) {
                    all.chosen[sort] = number;
                    choose(all, fusion, sort + 1);
                }
            }
        }

        private void keepChosen() {
            if (found < SORTS) {
                System.arraycopy(chosen, 0, rows, found * SORTS, SORTS);
                found++;
            }
        }

        private boolean goesOn(Fusion fusion, int sort, int number) {
            Arrays.fill(equation, 0);
            equation[0] = (PRIME - number) % PRIME;
            equation[sort] = 1;
            boolean good = learn(sort);
            for (int other = 1; good && other < fusion.size; other++) {
                becomeLaw(fusion, sort, other, number);
                good = learn(sort);
            }
            return good;
        }

        /**
         * The equation by which a SORT's number times that of another is what both give, the chosen
         * one first; the other order comes when the other one is chosen.
         */
        private void becomeLaw(Fusion fusion, int sort, int other, int number) {
            Arrays.fill(equation, 0);
            for (int k = 0; k < fusion.size; k++) {
                equation[k] = (PRIME - fusion.at(sort, other, k)) % PRIME;
            }
            equation[other] = (equation[other] + number) % PRIME;
        }

        /** Takes the equation to those known at a depth; false, if it can't be with them. */
        private boolean learn(int depth) {
            for (int sort = SORTS - 1; sort > 0; sort--) {
                if (equation[sort] != 0) {
                    int start = depth * PAIRS + sort * SORTS;
                    if (known[start + sort] == 0) {
                        keepEquation(start, inverseOf(equation[sort]));
                        return true;
                    }
                    int times = PRIME - equation[sort];
                    for (int k = 0; k <= sort; k++) {
                        equation[k] = (equation[k] + times * known[start + k]) % PRIME;
                    }
                }
            }
            return equation[0] == 0;
        }

        private void keepEquation(int start, int times) {
            for (int k = 0; k < SORTS; k++) {
                known[start + k] = equation[k] * times % PRIME;
            }
        }
    }

    /** Square tables of numbers MODULO 31, number (i, m) at place 5 i + m. */
    private static final class SquareTables {
        final int[] inverse = new int[PAIRS];
        final int[] product = new int[PAIRS];
        private final int[] work = new int[PAIRS];
        private final int[] cube = new int[PAIRS];

        SquareTables() {
        }

        /** Makes the inverse of a table; false, if there is none. */
        boolean invert(int[] table, int size) {
            System.arraycopy(table, 0, work, 0, PAIRS);
            Arrays.fill(inverse, 0);
            for (int i = 0; i < size; i++) {
                inverse[i * SORTS + i] = 1;
            }
            for (int column = 0; column < size; column++) {
                int row = rowWithNumber(column, size);
                if (row >= size) {
                    return false;
                }
                swapRows(work, row, column);
                swapRows(inverse, row, column);
                clearColumn(column, size);
            }
            return true;
        }

        private int rowWithNumber(int column, int size) {
            int row = column;
            while (row < size && work[row * SORTS + column] == 0) {
                row++;
            }
            return row;
        }

        private static void swapRows(int[] table, int one, int other) {
            for (int m = 0; m < SORTS; m++) {
                int number = table[one * SORTS + m];
                table[one * SORTS + m] = table[other * SORTS + m];
                table[other * SORTS + m] = number;
            }
        }

        private void clearColumn(int column, int size) {
            int times = inverseOf(work[column * SORTS + column]);
            addRow(column, column, times - 1);
            for (int row = 0; row < size; row++) {
                if (row != column) {
                    addRow(row, column, PRIME - work[row * SORTS + column]);
                }
            }
        }

        private void addRow(int to, int from, int times) {
            for (int m = 0; m < SORTS; m++) {
                work[to * SORTS + m] = (work[to * SORTS + m] + times * work[from * SORTS + m]) % PRIME;
                inverse[to * SORTS + m] = (inverse[to * SORTS + m] + times * inverse[from * SORTS + m]) % PRIME;
            }
        }

        private static void multiply(int[] one, int[] other, int[] both, int size) {
            for (int i = 0; i < size; i++) {
                for (int k = 0; k < size; k++) {
                    int sum = 0;
                    for (int m = 0; m < size; m++) {
                        sum += one[i * SORTS + m] * other[m * SORTS + k];
                    }
                    both[i * SORTS + k] = sum % PRIME;
                }
            }
        }

        /** LAW 0. */
        boolean squareIsShuffle(int[] table, int size) {
            multiply(table, table, product, size);
            int columns = 0;
            int number = 0;
            for (int i = 0; i < size; i++) {
                int column = onlyColumn(i, size);
                if (column < 0 || (columns >> column & 1) == 1) {
                    return false;
                }
                columns |= 1 << column;
                int here = product[i * SORTS + column];
                if (i > 0 && here != number) {
                    return false;
                }
                number = here;
            }
            return true;
        }

        /** The only column of the product that has a number other than 0 in this row, or NONE. */
        private int onlyColumn(int row, int size) {
            int column = NONE;
            for (int m = 0; m < size; m++) {
                if (product[row * SORTS + m] != 0) {
                    if (column != NONE) {
                        return NONE;
                    }
                    column = m;
                }
            }
            return column;
        }

        /** LAW 1. */
        boolean cubeIsSquare(int[] table, int[] twists, int size) {
            for (int i = 0; i < size; i++) {
                for (int m = 0; m < size; m++) {
                    work[i * SORTS + m] = table[i * SORTS + m] * twists[m] % PRIME;
                }
            }
            multiply(work, work, product, size);
            multiply(product, work, cube, size);
            multiply(table, table, product, size);
            for (int times = 1; times < PRIME; times++) {
                if (cubeIsProduct(times, size)) {
                    return !productIsZero(size);
                }
            }
            return false;
        }

        private boolean cubeIsProduct(int times, int size) {
            for (int i = 0; i < size; i++) {
                for (int m = 0; m < size; m++) {
                    if (cube[i * SORTS + m] != times * product[i * SORTS + m] % PRIME) {
                        return false;
                    }
                }
            }
            return true;
        }

        private boolean productIsZero(int size) {
            for (int i = 0; i < size; i++) {
                for (int m = 0; m < size; m++) {
                    if (product[i * SORTS + m] != 0) {
                        return false;
                    }
                }
            }
            return true;
        }
    }

    /** THE TAPE and its reading; when a reading fails, the place is that of the FAULT. */
    private static final class Reader {
        final byte[] bytes = new byte[TAPE_BYTES];
        int length = 0;
        /** The numbers of the SUM that was read last. */
        final int[] sum = new int[SORTS];
        private int terms = 0;
        private int place = 0;
        private final int[] draft = new int[TRIPLES];

        Reader() {
        }

        /** Brings the RULES into the told numbers: how many CLAUSES; -100 less the FAULT, and nothing is brought. */
        int readRules(int size, int[] told) {
            System.arraycopy(told, 0, draft, 0, TRIPLES);
            place = 0;
            for (int clauses = 1; clauses <= TAPE_BYTES; clauses++) {
                if (!readClause(size)) {
                    return FAULTS - place;
                }
                if (place >= length) {
                    System.arraycopy(draft, 0, told, 0, TRIPLES);
                    return clauses;
                }
                if (!passed(';')) {
                    return FAULTS - place;
                }
            }
            return FAULTS - place;
        }

        /** Makes the SUM of an ELEMENT: how many TERMS; -100 less the FAULT. */
        int readElement(int size) {
            place = 0;
            if (!readSum(size, 1, 3, MOST_IN_ELEMENT) || place < length) {
                return FAULTS - place;
            }
            return terms;
        }

        private boolean readClause(int size) {
            int one = readLetter(1, size);
            if (one == NONE || !passed('*')) {
                return false;
            }
            int other = readLetter(1, size);
            if (other == NONE || !passed('=') || !readSum(size, 2, 1, MOST_OFTEN)) {
                return false;
            }
            System.arraycopy(sum, 0, draft, one * PAIRS + other * SORTS, SORTS);
            System.arraycopy(sum, 0, draft, other * PAIRS + one * SORTS, SORTS);
            return true;
        }

        private boolean readSum(int size, int leastFigure, int figures, int most) {
            Arrays.fill(sum, 0);
            terms = 0;
            if (passed('0')) {
                return true;
            }
            for (int term = 0; term < TAPE_BYTES; term++) {
                int number = readNumber(leastFigure, figures);
                int sort = readLetter(0, size);
                if (sort == NONE) {
                    return false;
                }
                sum[sort] = Math.min(sum[sort] + number, most);
                terms++;
                if (!passed('+')) {
                    return true;
                }
            }
            return false;
        }

        /** A number of so many figures at most, the first one not below the least; 1, if there is none. */
        private int readNumber(int leastFigure, int figures) {
            int figure = nextByte() - '0';
            if (figure < leastFigure || figure > 9) {
                return 1;
            }
            int number = 0;
            for (int many = 0; many < figures && figure >= 0 && figure <= 9; many++) {
                number = 10 * number + figure;
                place++;
                figure = nextByte() - '0';
            }
            return number;
        }

        private int readLetter(int least, int size) {
            int sort = nextByte() - 'a';
            if (sort < least || sort >= size || sort >= SORTS) {
                return NONE;
            }
            place++;
            return sort;
        }

        private boolean passed(int letter) {
            if (nextByte() != letter) {
                return false;
            }
            place++;
            return true;
        }

        /** 0 behind the last one: no byte of THE TAPE is 0. */
        private int nextByte() {
            return place >= 0 && place < length && place < TAPE_BYTES ? bytes[place] : 0;
        }
    }
}
