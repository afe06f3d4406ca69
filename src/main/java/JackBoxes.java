import java.util.Arrays;

/**
 * Boxes with a jack in each on a shelf: who jumps out when, what can be learnt from how many
 * were heard, and what lids and rows would do. The words are those of the document.
 *
 * <p>Every row is made once, in the constructors, and used again: calls make no objects.
 */
public final class JackBoxes {
    public static final int NONE = -1, BAD = -2, NOT = -3, FULL = -4;

    private static final int MOST_BYTES = 35;
    private static final int MOST_BOXES = 9;
    private static final int STEPS = 60;
    private static final int MOST_TOLD = 24;
    private static final int MOST_HEARD = 8;
    private static final int ALL_LIDS = 511;

    private static final String LETTERS = "telwx";
    private static final int LAW_T = 0, LAW_E = 1, LAW_L = 2, LAW_W = 3, LAW_X = 4;
    /** A law and its number as learn() tells them: 10 times the law and the number; x has none. */
    private static final int CODE_X = 40;
    private static final int CODES = 37;

    private static final int TURNED = 0, LOOKED = 1, SHUT = 2, ACTS = 3;

    private static final int MOST_ON_SHELF = 6;
    private static final int SHELF_LAST_STEP = 19;
    private static final int LOOKS_LAST_STEP = 9;
    private static final int SIXTEENTHS = 16;

    private static final int SHEETS = 4, FORMS = 3, MOST_ITEMS = 60;
    private static final int FORM_BYTES = 0, FORM_SHORTS = 1;
    private static final int NO_FINDING = 0, NULL = 1, INDEX = 2, CAST = 3, STORE = 4, SIZE = 5;

    private static final int LEAST_INT = -2147483648;
    /** BAD where the answer is a long: the least long and 2 more. */
    private static final long LONG_BAD = -9223372036854775808L - BAD;

    private static final int[] DIGEST_STEPS = {0, 1, 2, 9, 59};

    private final Boxes boxes = new Boxes();
    private final int[] row = new int[MOST_BOXES];
    private int lidded = 0;
    private final Told told = new Told();

    private final int[] heardSteps = new int[MOST_HEARD];
    private final int[] heardMany = new int[MOST_HEARD];
    private int heardCount = 0;

    private final Sheet[] sheets = new Sheet[SHEETS];
    private int latestFinding = NO_FINDING;

    private final Course course = new Course();
    private boolean courseIsOld = true;
    private final Course trial = new Course();

    private final int[] fitting = new int[CODES];
    private final int[] alike = new int[MOST_BOXES + 1];
    private final int[] tried = new int[MOST_BOXES];
    private final int[] best = new int[MOST_BOXES];

    public JackBoxes() {
        for (int place = 0; place < MOST_BOXES; place++) {
            row[place] = place;
        }
        for (int s = 0; s < SHEETS; s++) {
            sheets[s] = new Sheet();
        }
    }

    // ---- boxes, the row

    public int type(int b) {
        if (b < 0 || b > 255) {
            return BAD;
        }
        if (boxes.length >= MOST_BYTES) {
            return FULL;
        }
        boxes.bytes[boxes.length] = b;
        return lengthen(boxes.length + 1);
    }

    public int wipe() {
        int had = boxes.length;
        lengthen(0);
        return had;
    }

    public int undo() {
        if (boxes.length == 0) {
            return NOT;
        }
        return lengthen(boxes.length - 1);
    }

    public int fault() {
        return boxes.fault;
    }

    public int box(int box, int what) {
        if (!isBox(box) || what < 0 || what > 2) {
            return BAD;
        }
        if (what == 0) {
            return boxes.laws[box];
        }
        return what == 1 ? boxes.numbers[box] : boxes.springs[box];
    }

    public int place(int place) {
        return isNumber(place) ? row[place] : BAD;
    }

    public int swap(int a, int b) {
        if (!isNumber(a) || !isNumber(b)) {
            return BAD;
        }
        if (a == b) {
            return 0;
        }
        exchange(row, a, b);
        courseIsOld = true;
        return 1;
    }

    public int lids(int boxes) {
        if (boxes < 0 || boxes > ALL_LIDS) {
            return BAD;
        }
        int were = lidded;
        lidded = boxes;
        courseIsOld = true;
        return were;
    }

    public int tell(int step, int box, int what) {
        if (!Told.mayBe(step, box, what)) {
            return BAD;
        }
        if (told.size >= MOST_TOLD) {
            return FULL;
        }
        told.add(step, box, what);
        courseIsOld = true;
        return told.size;
    }

    public int back() {
        if (told.size == 0) {
            return NOT;
        }
        told.size--;
        courseIsOld = true;
        return told.size;
    }

    public int read(int s) {
        if (!isSheet(s)) {
            return BAD;
        }
        Sheet from = sheets[s];
        if (from.lost) {
            return finding(NULL);
        }
        int before = told.size;
        boolean mayBe = true;
        for (int at = 0; mayBe && at + 2 < from.size && at + 2 < MOST_ITEMS; at += 3) {
            mayBe = tell(from.items[at], from.items[at + 1], from.items[at + 2]) > 0;
        }
        return told.size - before;
    }

    // ---- steps

    public int step(int step, int what) {
        if (!isStep(step) || !isEither(what)) {
            return BAD;
        }
        runAsTold();
        return what == 0 ? course.opened[step] : course.up[step];
    }

    public int spring(int step, int box) {
        if (!isStep(step) || !isBox(box)) {
            return BAD;
        }
        runAsTold();
        int left = boxes.springs[box];
        for (int s = 0; s <= step; s++) {
            left -= course.opened[s] >> box & 1;
        }
        return left;
    }

    public int quiet() {
        runAsTold();
        int from = STEPS;
        while (from > 0 && course.opened[from - 1] == 0) {
            from--;
        }
        return from == STEPS ? NONE : from;
    }

    public int loudest(int what) {
        if (!isEither(what)) {
            return BAD;
        }
        runAsTold();
        int loudest = NONE;
        int most = 0;
        for (int s = 0; s < STEPS; s++) {
            int many = Integer.bitCount(course.opened[s]);
            if (many > most) {
                most = many;
                loudest = s;
            }
        }
        return loudest == NONE || what == 0 ? loudest : most;
    }

    public int first(int box) {
        if (!isBox(box)) {
            return BAD;
        }
        runAsTold();
        for (int s = 0; s < STEPS; s++) {
            if ((course.opened[s] >> box & 1) != 0) {
                return s;
            }
        }
        return NONE;
    }

    public int together(int a, int b) {
        if (!isBox(a) || !isBox(b) || a == b) {
            return BAD;
        }
        runAsTold();
        int both = 1 << a | 1 << b;
        int many = 0;
        for (int s = 0; s < STEPS; s++) {
            if ((course.up[s] & both) == both) {
                many++;
            }
        }
        return many;
    }

    public int news(int from, int step, int to) {
        if (!isBox(from) || !isStep(step) || !isBox(to) || from == to) {
            return BAD;
        }
        runAsTold();
        int having = 1 << from;
        for (int s = step; s < STEPS; s++) {
            having = spread(having, course.up[s]);
            if ((having >> to & 1) != 0) {
                return s;
            }
        }
        return NONE;
    }

    public int hears(int from, int step) {
        if (!isBox(from) || !isStep(step)) {
            return BAD;
        }
        runAsTold();
        int having = 1 << from;
        for (int s = step; s < STEPS; s++) {
            having = spread(having, course.up[s]);
        }
        return having;
    }

    // ---- plans

    public int hush(int step, int what) {
        if (!isStep(step) || !isEither(what)) {
            return BAD;
        }
        trial.load(boxes, row, lidded, told);
        int free = boxes.allBits() & ~lidded;
        for (int many = 0; many <= MOST_BOXES; many++) {
            for (int more = 0; more <= ALL_LIDS; more++) {
                if ((more & ~free) == 0 && Integer.bitCount(more) == many && isHushed(more, step)) {
                    return what == 0 ? many : more;
                }
            }
        }
        return NONE;
    }

    public int shelf(int n, int loud, int i) {
        if (n < 1 || n > MOST_ON_SHELF || n > boxes.count || !isEither(loud) || i < NONE || i >= n) {
            return BAD;
        }
        int many = findShelf(n, loud == 1);
        return i == NONE ? many : best[i];
    }

    // ---- heard

    public int heard(int step, int many) {
        if (!isStep(step) || many < 0 || many > MOST_BOXES) {
            return BAD;
        }
        if (heardCount >= MOST_HEARD) {
            return FULL;
        }
        heardSteps[heardCount] = step;
        heardMany[heardCount] = many;
        heardCount++;
        return heardCount;
    }

    public int forget() {
        int had = heardCount;
        heardCount = 0;
        return had;
    }

    public int learn(int box, int i) {
        if (!isBox(box) || i < NONE || i >= CODES) {
            return BAD;
        }
        int many = findFitting(box);
        if (i == NONE) {
            return many;
        }
        return i < many ? fitting[i] : NONE;
    }

    public int empty() {
        trial.load(boxes, row, lidded, told);
        int last = lastHeardStep();
        int may = 0;
        for (int box = 0; box < boxes.count; box++) {
            int law = trial.laws[box];
            trial.laws[box] = LAW_X;
            trial.run(last);
            if (isAsHeard()) {
                may |= 1 << box;
            }
            trial.laws[box] = law;
        }
        return may;
    }

    public int turn(int box, int step) {
        if (!isBox(box) || !isStep(step)) {
            return BAD;
        }
        int many = findFitting(box);
        int chosen = NONE;
        int least = 0;
        for (int turned = 0; turned < boxes.count; turned++) {
            int greatest = greatestAlike(box, step, turned, many);
            if (chosen == NONE || greatest < least) {
                chosen = turned;
                least = greatest;
            }
        }
        return chosen;
    }

    // ---- looks, nights

    public long looks(int c, int box, int step, int what) {
        if (c < 0 || c > SIXTEENTHS || !isBox(box) || step < 0 || step > LOOKS_LAST_STEP || !isEither(what)) {
            return LONG_BAD;
        }
        long below = wholeWeight(step);
        long above = weightUp(c, box, step);
        long divisor = commonDivisor(above, below);
        if (divisor == 0) {
            return LONG_BAD;
        }
        return (what == 0 ? above : below) / divisor;
    }

    public int night(int seed, int step, int what) {
        if (!isStep(step) || !isEither(what)) {
            return BAD;
        }
        trial.load(boxes, row, lidded, told);
        int lot = seed;
        for (int s = 0; s <= step && boxes.count > 0; s++) {
            lot = 1103515245 * lot + 12345;
            trial.acts[TURNED][s] |= 1 << (lot >>> 16) % boxes.count;
        }
        trial.run(step);
        return what == 0 ? trial.openings(step) : trial.up[step];
    }

    // ---- sheets

    public int sheet(int s, int form, int n) {
        if (!isSheet(s) || !isForm(form) || n > MOST_ITEMS) {
            return BAD;
        }
        if (n < 0) {
            return finding(SIZE);
        }
        sheets[s].renew(form, n);
        return n;
    }

    public int lose(int s) {
        if (!isSheet(s)) {
            return BAD;
        }
        if (sheets[s].lost) {
            return finding(NULL);
        }
        sheets[s].lost = true;
        return sheets[s].size;
    }

    public int lay(int s, int form, int i, int v) {
        if (!isSheet(s) || !isForm(form)) {
            return BAD;
        }
        int wrong = sheets[s].findingAt(form, i);
        if (wrong != NO_FINDING) {
            return finding(wrong);
        }
        sheets[s].put(i, v);
        return 1;
    }

    public int get(int s, int form, int i) {
        if (!isSheet(s) || !isForm(form)) {
            return LEAST_INT;
        }
        int wrong = sheets[s].findingAt(form, i);
        if (wrong != NO_FINDING) {
            finding(wrong);
            return LEAST_INT;
        }
        return sheets[s].items[i];
    }

    public int copy(int s, int i, int t, int j, int n) {
        if (!isSheet(s) || !isSheet(t)) {
            return BAD;
        }
        Sheet from = sheets[s];
        Sheet to = sheets[t];
        if (from.lost || to.lost) {
            return finding(NULL);
        }
        if (from.form != to.form) {
            return finding(STORE);
        }
        if (!from.has(i, n) || !to.has(j, n)) {
            return finding(INDEX);
        }
        System.arraycopy(from.items, i, to.items, j, n);
        return 1;
    }

    public int write(int what, int s) {
        if (!isEither(what) || !isSheet(s)) {
            return BAD;
        }
        Sheet to = sheets[s];
        if (to.lost) {
            return finding(NULL);
        }
        runAsTold();
        for (int i = 0; i < to.size && i < STEPS; i++) {
            to.put(i, what == 0 ? course.opened[i] : course.up[i]);
        }
        return to.size;
    }

    public int count(int what) {
        switch (what) {
            case 0: return boxes.count;
            case 1: return boxes.length;
            case 2: return told.size;
            case 3: return heardCount;
            case 4: return lidded;
            case 5: return boxes.allSprings();
            case 6:
                runAsTold();
                return course.openings(STEPS - 1);
            case 7: return boxes.withLaw(LAW_X);
            case 8: return latestFinding;
            default: return BAD;
        }
    }

    public long digest() {
        long h = 17;
        for (int what = 0; what <= 7; what++) {
            h = 31 * h + count(what);
        }
        h = 31 * h + fault();
        for (int place = 0; place < MOST_BOXES; place++) {
            h = 31 * h + place(place);
        }
        for (int box = 0; box < boxes.count; box++) {
            h = digestBox(h, box);
        }
        for (int s : DIGEST_STEPS) {
            h = 31 * h + step(s, 0);
            h = 31 * h + step(s, 1);
        }
        h = 31 * h + quiet();
        h = 31 * h + loudest(0);
        h = 31 * h + loudest(1);
        h = 31 * h + news(0, 0, 1);
        h = 31 * h + hush(9, 0);
        h = 31 * h + hush(9, 1);
        for (int loud = 0; loud <= 1; loud++) {
            h = 31 * h + shelf(3, loud, NONE);
            h = 31 * h + shelf(3, loud, 0);
        }
        h = 31 * h + empty();
        h = 31 * h + turn(0, 4);
        h = 31 * h + night(7, 20, 0);
        return 31 * h + night(7, 20, 1);
    }

    private long digestBox(long before, int box) {
        long h = before;
        for (int what = 0; what <= 2; what++) {
            h = 31 * h + box(box, what);
        }
        h = 31 * h + first(box);
        h = 31 * h + spring(9, box);
        h = 31 * h + together(box, 0);
        h = 31 * h + hears(box, 2);
        h = 31 * h + learn(box, NONE);
        h = 31 * h + learn(box, 0);
        h = 31 * h + looks(5, box, 4, 0);
        return 31 * h + looks(5, box, 4, 1);
    }

    // ---- what a number may be

    private boolean isBox(int box) {
        return box >= 0 && box < boxes.count;
    }

    /** If it is a box's number or a place in the row, be there a jack or not. */
    private static boolean isNumber(int number) {
        return number >= 0 && number < MOST_BOXES;
    }

    private static boolean isStep(int step) {
        return step >= 0 && step < STEPS;
    }

    private static boolean isEither(int what) {
        return what == 0 || what == 1;
    }

    private static boolean isSheet(int s) {
        return s >= 0 && s < SHEETS;
    }

    private static boolean isForm(int form) {
        return form >= 0 && form < FORMS;
    }

    // ---- what several calls need

    private int finding(int number) {
        latestFinding = number;
        return -10 - number;
    }

    private int lengthen(int length) {
        boxes.length = length;
        boxes.parse();
        courseIsOld = true;
        return length;
    }

    /** Between two changes the course is run once, however much is asked of it. */
    private void runAsTold() {
        if (courseIsOld) {
            course.load(boxes, row, lidded, told);
            course.run(STEPS - 1);
            courseIsOld = false;
        }
    }

    private static int spread(int having, int up) {
        return (having & up) != 0 ? having | up : having;
    }

    private static void exchange(int[] numbers, int a, int b) {
        int number = numbers[a];
        numbers[a] = numbers[b];
        numbers[b] = number;
    }

    // ---- plans, in particular

    private boolean isHushed(int more, int step) {
        trial.lids = lidded | more;
        trial.run(step);
        return trial.up[step] == 0;
    }

    /** Puts the row that is asked for into best; says how many open by it. */
    private int findShelf(int n, boolean loud) {
        trial.load(boxes, row, lidded, told);
        for (int place = 0; place < MOST_BOXES; place++) {
            tried[place] = place;
        }
        int found = NONE;
        boolean more = true;
        // six boxes have 720 rows
        for (int rows = 0; rows < 720 && more; rows++) {
            trial.putRow(tried);
            trial.run(SHELF_LAST_STEP);
            int many = trial.openings(SHELF_LAST_STEP);
            // rows come from the least on, so that a like one behind does not count
            if (found == NONE || (loud ? many > found : many < found)) {
                found = many;
                System.arraycopy(tried, 0, best, 0, MOST_BOXES);
            }
            more = stepToNextRow(n);
        }
        return found;
    }

    /** Makes the first n of the tried row the least ones above what they are; false if there are none. */
    private boolean stepToNextRow(int n) {
        int low = n - 2;
        while (low >= 0 && tried[low] > tried[low + 1]) {
            low--;
        }
        if (low < 0) {
            return false;
        }
        int high = n - 1;
        while (high > low && tried[high] < tried[low]) {
            high--;
        }
        exchange(tried, low, high);
        for (int a = low + 1, b = n - 1; a < b; a++, b--) {
            exchange(tried, a, b);
        }
        return true;
    }

    // ---- heard, in particular

    private int lastHeardStep() {
        int last = NONE;
        for (int k = 0; k < heardCount; k++) {
            last = Math.max(last, heardSteps[k]);
        }
        return last;
    }

    private boolean isAsHeard() {
        for (int k = 0; k < heardCount; k++) {
            if (Integer.bitCount(trial.opened[heardSteps[k]]) != heardMany[k]) {
                return false;
            }
        }
        return true;
    }

    /** Puts the codes of all laws of a box by which it comes out as heard into fitting; says how many. */
    private int findFitting(int box) {
        trial.load(boxes, row, lidded, told);
        int last = lastHeardStep();
        int many = 0;
        for (int code = 1; code <= CODE_X && many < CODES; code++) {
            if (code % 10 == 0 && code != CODE_X) {
                continue;
            }
            trial.putLaw(box, code);
            trial.run(last);
            if (isAsHeard()) {
                fitting[many] = code;
                many++;
            }
        }
        return many;
    }

    /**
     * Of the first so many laws in fitting, how many at most let like many open in a step, if a box
     * more is turned in it. What was heard was heard without this turn, so fitting stays as it is.
     */
    private int greatestAlike(int box, int step, int turned, int many) {
        int turnedAsTold = trial.acts[TURNED][step];
        trial.acts[TURNED][step] = turnedAsTold | 1 << turned;
        Arrays.fill(alike, 0);
        int greatest = 0;
        for (int k = 0; k < many; k++) {
            trial.putLaw(box, fitting[k]);
            trial.run(step);
            int opening = Integer.bitCount(trial.opened[step]);
            alike[opening]++;
            greatest = Math.max(greatest, alike[opening]);
        }
        trial.acts[TURNED][step] = turnedAsTold;
        return greatest;
    }

    // ---- looks, in particular

    /** Of all ways to look at a box, those by which it is up, each as often as it comes in sixteenths. */
    private long weightUp(int c, int box, int step) {
        trial.load(boxes, row, lidded, told);
        if (boxes.laws[box] != LAW_L) {
            // no other law heeds looks, and one box's looks are nothing to the others
            trial.run(step);
            return trial.isUp(box, step) ? wholeWeight(step) : 0;
        }
        long above = 0;
        int ways = 1 << step + 1;
        for (int looked = 0; looked < ways; looked++) {
            long weight = weight(c, looked, step);
            if (weight == 0) {
                continue;
            }
            trial.putLooks(box, looked, step);
            trial.run(step);
            if (trial.isUp(box, step)) {
                above += weight;
            }
        }
        return above;
    }

    /** How often all ways to look come together: 16 to the power of the steps. */
    private static long wholeWeight(int step) {
        return 1L << 4 * (step + 1);
    }

    /** How often a way to look (a bit for each step) comes among them. */
    private static long weight(int c, int looked, int step) {
        long weight = 1;
        for (int s = 0; s <= step; s++) {
            weight *= (looked >> s & 1) != 0 ? c : SIXTEENTHS - c;
        }
        return weight;
    }

    private static long commonDivisor(long above, long below) {
        long a = below;
        long b = above;
        // two longs have no longer way to go than some ninety rounds
        for (int round = 0; round < 100 && b != 0; round++) {
            long rest = a % b;
            a = b;
            b = rest;
        }
        return a;
    }

    /** The boxes as a text, and what it says of each. */
    private static final class Boxes {
        final int[] bytes = new int[MOST_BYTES];
        int length = 0;
        int fault = NONE;
        int count = 0;
        final int[] laws = new int[MOST_BOXES];
        final int[] numbers = new int[MOST_BOXES];
        final int[] springs = new int[MOST_BOXES];

        void parse() {
            fault = findFault();
            count = 0;
            for (int at = 0; fault == NONE && at + 2 < length && count < MOST_BOXES; at += 4) {
                laws[count] = LETTERS.indexOf((char) bytes[at]);
                numbers[count] = bytes[at + 1] - '0';
                springs[count] = bytes[at + 2] - '0';
                count++;
            }
        }

        private int findFault() {
            for (int at = 0; at < length; at++) {
                if (!isDue(at, bytes[at])) {
                    return at;
                }
            }
            return length == 0 || length % 4 == 3 ? NONE : length;
        }

        private static boolean isDue(int at, int sign) {
            switch (at % 4) {
                case 0: return at / 4 < MOST_BOXES && LETTERS.indexOf((char) sign) >= 0;
                case 3: return sign == ';';
                default: return sign >= '1' && sign <= '9';
            }
        }

        int allBits() {
            return (1 << count) - 1;
        }

        int allSprings() {
            int all = 0;
            for (int box = 0; box < count; box++) {
                all += springs[box];
            }
            return all;
        }

        int withLaw(int law) {
            int many = 0;
            for (int box = 0; box < count; box++) {
                if (laws[box] == law) {
                    many++;
                }
            }
            return many;
        }
    }

    /** The told steps, in the order in which they were told. */
    private static final class Told {
        final int[] steps = new int[MOST_TOLD];
        final int[] boxes = new int[MOST_TOLD];
        final int[] acts = new int[MOST_TOLD];
        int size = 0;

        static boolean mayBe(int step, int box, int act) {
            return isStep(step) && isNumber(box) && act >= 0 && act < ACTS;
        }

        void add(int step, int box, int act) {
            if (size < MOST_TOLD) {
                steps[size] = step;
                boxes[size] = box;
                acts[size] = act;
                size++;
            }
        }
    }

    /** What happens step by step. It is loaded as told; what is tried is then changed in it. */
    private static final class Course {
        int count = 0;
        final int[] laws = new int[MOST_BOXES];
        final int[] numbers = new int[MOST_BOXES];
        final int[] springs = new int[MOST_BOXES];
        final int[] places = new int[MOST_BOXES];
        int lids = 0;
        /** By act and step, the boxes to which it is done, as bits. */
        final int[][] acts = new int[ACTS][STEPS];

        final int[] opened = new int[STEPS];
        final int[] up = new int[STEPS];

        private final int[] reaches = new int[MOST_BOXES];
        private final int[] left = new int[MOST_BOXES];
        private final int[] turns = new int[MOST_BOXES];
        private final int[] unseen = new int[MOST_BOXES];
        private int upBefore = 0;
        private int manyUpBefore = 0;
        private int noisyPlaces = 0;

        void load(Boxes boxes, int[] row, int lidded, Told told) {
            count = boxes.count;
            System.arraycopy(boxes.laws, 0, laws, 0, MOST_BOXES);
            System.arraycopy(boxes.numbers, 0, numbers, 0, MOST_BOXES);
            System.arraycopy(boxes.springs, 0, springs, 0, MOST_BOXES);
            putRow(row);
            lids = lidded;
            for (int act = 0; act < ACTS; act++) {
                Arrays.fill(acts[act], 0);
            }
            for (int k = 0; k < told.size; k++) {
                acts[told.acts[k]][told.steps[k]] |= 1 << told.boxes[k];
            }
        }

        void putRow(int[] row) {
            for (int place = 0; place < MOST_BOXES; place++) {
                places[row[place]] = place;
            }
        }

        void putLaw(int box, int code) {
            laws[box] = code / 10;
            numbers[box] = code % 10;
        }

        /** The box is looked at in steps 0 to the last by the bits of looked alone. */
        void putLooks(int box, int looked, int last) {
            for (int step = 0; step <= last && step < STEPS; step++) {
                int others = acts[LOOKED][step] & ~(1 << box);
                acts[LOOKED][step] = others | (looked >> step & 1) << box;
            }
        }

        void run(int last) {
            for (int box = 0; box < count; box++) {
                reaches[box] = placesAround(places[box], numbers[box]);
                left[box] = springs[box];
                turns[box] = 0;
                unseen[box] = 0;
            }
            upBefore = 0;
            noisyPlaces = 0;
            for (int step = 0; step <= last && step < STEPS; step++) {
                go(step);
            }
        }

        /** The places so many off or fewer, as bits; the place itself is not one of them. */
        private static int placesAround(int place, int number) {
            int window = (1 << 2 * number + 1) - 1;
            return window << place >> number & ~(1 << place);
        }

        private void go(int step) {
            int opening = 0;
            int noisy = 0;
            int able = ~(upBefore | lids);
            manyUpBefore = Integer.bitCount(upBefore);
            for (int box = 0; box < count; box++) {
                if ((able >> box & 1) != 0 && left[box] > 0 && opensByLaw(box, step)) {
                    left[box]--;
                    turns[box] = 0;
                    unseen[box] = 0;
                    opening |= 1 << box;
                    noisy |= 1 << places[box];
                }
            }
            upBefore = (upBefore | opening) & ~acts[SHUT][step];
            noisyPlaces = noisy;
            opened[step] = opening;
            up[step] = upBefore;
        }

        /** Only a box that is shut and has no lid is asked, so turns and steps unseen count for such alone. */
        private boolean opensByLaw(int box, int step) {
            switch (laws[box]) {
                case LAW_T:
                    if ((acts[TURNED][step] >> box & 1) == 0) {
                        return false;
                    }
                    turns[box]++;
                    return turns[box] == numbers[box];
                case LAW_E:
                    return (noisyPlaces & reaches[box]) != 0;
                case LAW_L:
                    unseen[box] = (acts[LOOKED][step] >> box & 1) != 0 ? 0 : unseen[box] + 1;
                    return unseen[box] >= numbers[box];
                case LAW_W:
                    return manyUpBefore >= numbers[box];
                default:
                    return false;
            }
        }

        boolean isUp(int box, int step) {
            return (up[step] >> box & 1) != 0;
        }

        /** How many open in steps 0 to the last, all together. */
        int openings(int last) {
            int many = 0;
            for (int step = 0; step <= last && step < STEPS; step++) {
                many += Integer.bitCount(opened[step]);
            }
            return many;
        }
    }

    /** A row of bytes, shorts or ints; its items are held as ints that fit its form. */
    private static final class Sheet {
        boolean lost = true;
        int form = FORM_BYTES;
        int size = 0;
        final int[] items = new int[MOST_ITEMS];

        void renew(int newForm, int newSize) {
            lost = false;
            form = newForm;
            size = newSize;
            Arrays.fill(items, 0);
        }

        void put(int i, int v) {
            if (form == FORM_BYTES) {
                items[i] = (byte) v;
            } else if (form == FORM_SHORTS) {
                items[i] = (short) v;
            } else {
                items[i] = v;
            }
        }

        boolean has(int i, int n) {
            return i >= 0 && n >= 0 && i <= size - n;
        }

        int findingAt(int asForm, int i) {
            if (lost) {
                return NULL;
            }
            if (form != asForm) {
                return CAST;
            }
            return has(i, 1) ? NO_FINDING : INDEX;
        }
    }
}
