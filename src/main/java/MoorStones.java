/** A moor of heather, bog and stones, as ../shared/DOC.md promises it. */
public final class MoorStones {
    public static final int BAD = -1, STATE = -2, FULL = -3, NONE = -9;
    public static final int NO = -1000000;

    private static final int NOT_SO_MANY = -5;
    private static final int FAULTS = -10;
    private static final int MOST_CELLS = 24;
    private static final int MOST_WALKERS = 4;
    private static final int MOST_BYTES = 300;
    private static final int MOST_SINK = 9;
    private static final int MOST_DAYS = 9;
    private static final int MOST_BOG_JOINED = 10;
    private static final int MOST_BOG_BY_TURNS = 8;
    private static final int MOST_BEARING_APART = 12;

    private static final int WALKER = 0, PILGRIM = 1, SHEPHERD = 2, MONK = 3, THIEF = 4, CHILD = 5;

    private final Reader reader;
    private final Text text;
    private final Told told;
    /** A text that tells a FAULT must change nothing, so it is read in here first. */
    private final Told draft;
    private final Plans plans;
    private final Ways ways;
    private final Now current;
    private final Now imageZero;
    private final Now imageOne;
    private long traced;

    public MoorStones() {
        reader = new Reader();
        text = reader.text;
        told = new Told();
        draft = new Told();
        plans = new Plans();
        ways = plans.ways;
        current = new Now();
        imageZero = new Now();
        imageOne = new Now();
        traced = 0;
    }

    // ---- the moor

    public int type(long v, int n) {
        if (n < 1 || n > 8) {
            return BAD;
        }
        if (text.length + n > MOST_BYTES) {
            return FULL;
        }
        for (int i = n - 1; i >= 0; i--) {
            text.add((int) (v >>> (8 * i)) & 255);
        }
        return text.length;
    }

    public int clear() {
        return text.empty();
    }

    public int moor() {
        int items = reader.readInto(draft);
        if (items < 0) {
            return items;
        }
        text.empty();
        told.copy(draft);
        ways.measure(told.wide, told.high);
        current.beginAsTold(told);
        imageZero.isKept = false;
        imageOne.isKept = false;
        return items;
    }

    public int cell(int c, int what) {
        if (!isCell(c)) {
            return BAD;
        }
        switch (what) {
            case 0:
                return current.groundOf(c);
            case 1:
                return at(current.bears, c);
            case 2:
                return at(current.layers, c);
            default:
                return BAD;
        }
    }

    public int walker(int k, int what) {
        if (!isWalker(k)) {
            return BAD;
        }
        switch (what) {
            case 0:
                return at(told.from, k);
            case 1:
                return at(told.to, k);
            case 2:
                return at(current.passed, k);
            case 3:
                return current.laidBy(k);
            default:
                return BAD;
        }
    }

    // ---- who passes

    public int passes(int k, int c) {
        if (!isWalker(k) || !isCell(c)) {
            return BAD;
        }
        if (stepsOf(k) == NONE || !has(current.bog, c)) {
            return STATE;
        }
        return goAndLay(k, c);
    }

    public int days(int n) {
        if (n < 1 || n > MOST_DAYS) {
            return BAD;
        }
        int couldNot = 0;
        for (int day = 0; day < n; day++) {
            for (int k = 0; k < told.walkers; k++) {
                if (stepsOf(k) == NONE || current.bog == 0) {
                    couldNot++;
                } else {
                    goAndLay(k, likedBy(k));
                }
            }
        }
        return couldNot;
    }

    public int now(int what) {
        switch (what) {
            case 0:
                return Integer.bitCount(ways.all & ~current.bog & ~current.stones);
            case 1:
                return Integer.bitCount(current.bog);
            case 2:
                return Integer.bitCount(current.stones);
            case 3:
                return current.passedByAll();
            default:
                return BAD;
        }
    }

    public int anew() {
        int passed = current.passedByAll();
        current.beginAsTold(told);
        return passed;
    }

    // ---- ways

    public int steps(int a, int b) {
        if (!isCell(a) || !isCell(b)) {
            return BAD;
        }
        return ways.fewestSteps(a, b, bearing());
    }

    public int way(int a, int b, int i) {
        if (!isCell(a) || !isCell(b) || i < 0) {
            return BAD;
        }
        int length = ways.fewestSteps(a, b, bearing());
        if (length == NONE) {
            return NONE;
        }
        if (i > length) {
            return NOT_SO_MANY;
        }
        int c = a;
        for (int step = 0; step < i; step++) {
            c = ways.nextCell(c, b, bearing());
        }
        return c;
    }

    public int stones(int a, int b) {
        if (!isCell(a) || !isCell(b)) {
            return BAD;
        }
        return ways.fewestStones(a, b, bearing());
    }

    public int joined(int set, int what) {
        if (what < 0 || what > 1) {
            return BAD;
        }
        if (Integer.bitCount(current.bog) > MOST_BOG_JOINED) {
            return STATE;
        }
        int laid = plans.leastJoining(set & ways.all, bearing(), current.bog);
        return what == 0 ? Integer.bitCount(laid) : laid;
    }

    public int likes(int k) {
        if (!isWalker(k)) {
            return BAD;
        }
        return likedBy(k);
    }

    public int byTurns(int a, int b) {
        if (!isCell(a) || !isCell(b)) {
            return BAD;
        }
        if (Integer.bitCount(current.bog) > MOST_BOG_BY_TURNS) {
            return STATE;
        }
        return plans.laidByTurns(a, b, bearing(), current.bog);
    }

    public int apart(int a, int b) {
        if (!isCell(a) || !isCell(b) || a == b) {
            return BAD;
        }
        int others = bearing() & ~(1 << a) & ~(1 << b);
        if (Integer.bitCount(others) > MOST_BEARING_APART) {
            return STATE;
        }
        if (!has(bearing(), a) || !has(bearing(), b) || has(ways.near(1 << a), b)) {
            return NONE;
        }
        return plans.fewestApart(a, b, others);
    }

    // ---- kinds, images

    public int rate(int kind, int k) {
        if (!isWalker(k)) {
            return NO;
        }
        switch (kind) {
            case WALKER:
                return rateWalker(k);
            case PILGRIM:
                return ratePilgrim(k);
            case SHEPHERD:
                return rateShepherd(k);
            case MONK:
                return rateMonk(k);
            case THIEF:
                return rateThief(k);
            case CHILD:
                return rateChild(k);
            default:
                return NO;
        }
    }

    public int keep(int image) {
        if (image < 0 || image > 1) {
            return BAD;
        }
        Now kept = imageOf(image);
        kept.copy(current);
        kept.isKept = true;
        return Integer.bitCount(current.stones);
    }

    public int back(int image) {
        if (image < 0 || image > 1) {
            return BAD;
        }
        Now kept = imageOf(image);
        if (!kept.isKept) {
            return STATE;
        }
        current.copy(kept);
        return Integer.bitCount(current.stones);
    }

    public int count(int what) {
        switch (what) {
            case 0:
                return told.wide;
            case 1:
                return told.high;
            case 2:
                return told.walkers;
            case 3:
                return told.sink;
            case 4:
                return text.length;
            default:
                return BAD;
        }
    }

    public long trace() {
        return traced;
    }

    // ---- what the calls above share

    private boolean isCell(int c) {
        return c >= 0 && c < told.cells;
    }

    private boolean isWalker(int k) {
        return k >= 0 && k < told.walkers;
    }

    private Now imageOf(int image) {
        return image == 0 ? imageZero : imageOne;
    }

    private int bearing() {
        return ways.all & ~current.bog;
    }

    private int stepsOf(int k) {
        return ways.fewestSteps(at(told.from, k), at(told.to, k), bearing());
    }

    private int likedBy(int k) {
        return plans.bestToLay(at(told.from, k), at(told.to, k), bearing(), current.bog);
    }

    /** The whole WAY is that of the moor ahead of the going, though STONES sink behind the WALKER. */
    private int goAndLay(int k, int c) {
        int bearingAhead = bearing();
        int place = at(told.from, k);
        int goal = at(told.to, k);
        int length = ways.fewestSteps(place, goal, bearingAhead);
        for (int step = 0; step < length; step++) {
            place = ways.nextCell(place, goal, bearingAhead);
            current.stepOn(place);
        }
        current.lay(k, c, told.sink);
        return length;
    }

    private int rateWalker(int k) {
        traced += 1;
        return Math.max(stepsOf(k), 0);
    }

    private int ratePilgrim(int k) {
        traced += 10;
        return rateWalker(k) + at(current.passed, k);
    }

    private int rateShepherd(int k) {
        traced += 100;
        return rateWalker(k) - current.laidBy(k);
    }

    private int rateMonk(int k) {
        traced += 1000;
        return 2 * ratePilgrim(k);
    }

    private int rateThief(int k) {
        traced += 10000;
        return rateShepherd(k) + k;
    }

    private int rateChild(int k) {
        traced += 100000;
        return rateWalker(k) + ways.fewestStones(at(told.from, k), at(told.to, k), bearing());
    }

    // ---- rows and sets, looked at with care: the machine must never throw

    private static int at(int[] row, int i) {
        return i >= 0 && i < row.length ? row[i] : 0;
    }

    private static void put(int[] row, int i, int value) {
        if (i >= 0 && i < row.length) {
            row[i] = value;
        }
    }

    private static void copyRow(int[] from, int[] to) {
        System.arraycopy(from, 0, to, 0, Math.min(from.length, to.length));
    }

    private static boolean has(int cells, int c) {
        return (cells & 1 << c) != 0;
    }

    /** THE TEXT: bytes 0 .. 255 as they were typed. */
    private static final class Text {
        private final int[] bytes;
        private int length;

        Text() {
            bytes = new int[MOST_BYTES];
            length = 0;
        }

        void add(int b) {
            if (length < MOST_BYTES) {
                put(bytes, length, b);
                length++;
            }
        }

        int empty() {
            int had = length;
            length = 0;
            return had;
        }

        int byteAt(int i) {
            return i >= 0 && i < length && i < bytes.length ? bytes[i] : -1;
        }

        int behindRun(int start, char low, char high) {
            int i = start;
            while (i < length && byteAt(i) >= low && byteAt(i) <= high) {
                i++;
            }
            return i;
        }
    }

    /**
     * Reads THE TEXT, TOKEN by TOKEN. Whatever is wrong is found while its TOKEN is the one that is looked at
     * (the end counts as a TOKEN, too), so FAULT is always where that one starts.
     */
    private static final class Reader {
        private static final int END = 0, WORD = 1, NUMBER = 2, SEMICOLON = 3, NONE_OF_THESE = 4;

        private final Text text;
        private int start;
        private int behind;
        private int sort;
        private int number;

        Reader() {
            text = new Text();
        }

        /** How many ITEMS, or -10 less FAULT. */
        int readInto(Told draft) {
            draft.empty();
            behind = 0;
            int items = 0;
            toNextToken();
            while (sort != END && items < MOST_BYTES) {
                if (!readItem(draft)) {
                    return FAULTS - start;
                }
                items++;
                toNextToken();
            }
            return items;
        }

        private boolean readItem(Told draft) {
            boolean stands = false;
            if (isWord("row")) {
                stands = readRow(draft);
            } else if (isWord("walker")) {
                stands = readWalker(draft);
            } else if (isWord("sink")) {
                stands = readSink(draft);
            }
            if (!stands) {
                return false;
            }
            toNextToken();
            return sort == SEMICOLON;
        }

        private boolean readRow(Told draft) {
            if (!draft.takesRow()) {
                return false;
            }
            toNextToken();
            if (sort != WORD || !draft.beginRow(behind - start)) {
                return false;
            }
            for (int i = start; i < behind; i++) {
                if (!draft.addCell(text.byteAt(i))) {
                    return false;
                }
            }
            return true;
        }

        private boolean readWalker(Told draft) {
            if (draft.walkers >= MOST_WALKERS) {
                return false;
            }
            toNextToken();
            if (!isNumberTo(draft.cells - 1)) {
                return false;
            }
            int from = number;
            toNextToken();
            if (!isNumberTo(draft.cells - 1) || number == from) {
                return false;
            }
            draft.addWalker(from, number);
            return true;
        }

        private boolean readSink(Told draft) {
            if (draft.sinkTold) {
                return false;
            }
            toNextToken();
            if (!isNumberTo(MOST_SINK)) {
                return false;
            }
            draft.sink = number;
            draft.sinkTold = true;
            return true;
        }

        private boolean isNumberTo(int most) {
            return sort == NUMBER && number <= most;
        }

        private boolean isWord(String word) {
            if (sort != WORD || behind - start != word.length()) {
                return false;
            }
            for (int i = 0; i < word.length(); i++) {
                if (text.byteAt(start + i) != word.charAt(i)) {
                    return false;
                }
            }
            return true;
        }

        private void toNextToken() {
            start = text.behindRun(behind, ' ', ' ');
            int first = text.byteAt(start);
            if (first < 0) {
                behind = start;
                sort = END;
            } else if (first >= 'a' && first <= 'z') {
                behind = text.behindRun(start, 'a', 'z');
                sort = WORD;
            } else if (first >= '0' && first <= '9') {
                behind = text.behindRun(start, '0', '9');
                sort = sortOfDigits(first);
            } else {
                behind = start + 1;
                sort = first == ';' ? SEMICOLON : NONE_OF_THESE;
            }
        }

        private int sortOfDigits(int first) {
            int digits = behind - start;
            if (digits > 2 || digits == 2 && first == '0') {
                return NONE_OF_THESE;
            }
            number = first - '0';
            if (digits == 2) {
                number = 10 * number + text.byteAt(start + 1) - '0';
            }
            return NUMBER;
        }
    }

    /** What a text tells; sets of CELLS are bits here and everywhere else. */
    private static final class Told {
        private static final int MOST_WIDE = 6, MOST_HIGH = 4;

        private int wide;
        private int high;
        private int cells;
        private int bog;
        private int stones;
        private int sink;
        private boolean sinkTold;
        private int walkers;
        private final int[] from;
        private final int[] to;

        Told() {
            from = new int[MOST_WALKERS];
            to = new int[MOST_WALKERS];
        }

        void empty() {
            wide = 0;
            high = 0;
            cells = 0;
            bog = 0;
            stones = 0;
            sink = 0;
            sinkTold = false;
            walkers = 0;
        }

        void copy(Told other) {
            wide = other.wide;
            high = other.high;
            cells = other.cells;
            bog = other.bog;
            stones = other.stones;
            sink = other.sink;
            sinkTold = other.sinkTold;
            walkers = other.walkers;
            copyRow(other.from, from);
            copyRow(other.to, to);
        }

        boolean takesRow() {
            return high < MOST_HIGH && walkers == 0;
        }

        boolean beginRow(int length) {
            if (high == 0 ? length > MOST_WIDE : length != wide) {
                return false;
            }
            wide = length;
            high++;
            return true;
        }

        boolean addCell(int letter) {
            if (letter != 'h' && letter != 'b' && letter != 's') {
                return false;
            }
            if (letter == 'b') {
                bog |= 1 << cells;
            }
            if (letter == 's') {
                stones |= 1 << cells;
            }
            cells++;
            return true;
        }

        void addWalker(int a, int b) {
            put(from, walkers, a);
            put(to, walkers, b);
            walkers++;
        }
    }

    /** NOW, or an IMAGE of it. */
    private static final class Now {
        private static final int HEATHER = 0, BOG = 1, STONE = 2;

        private int bog;
        private int stones;
        private final int[] bears;
        private final int[] layers;
        private final int[] passed;
        private boolean isKept;

        Now() {
            bears = new int[MOST_CELLS];
            layers = new int[MOST_CELLS];
            passed = new int[MOST_WALKERS];
        }

        void beginAsTold(Told told) {
            bog = told.bog;
            stones = told.stones;
            for (int c = 0; c < MOST_CELLS; c++) {
                put(bears, c, has(stones, c) ? told.sink : 0);
                put(layers, c, NONE);
            }
            for (int k = 0; k < MOST_WALKERS; k++) {
                put(passed, k, 0);
            }
        }

        void copy(Now other) {
            bog = other.bog;
            stones = other.stones;
            copyRow(other.bears, bears);
            copyRow(other.layers, layers);
            copyRow(other.passed, passed);
        }

        int groundOf(int c) {
            if (has(stones, c)) {
                return STONE;
            }
            return has(bog, c) ? BOG : HEATHER;
        }

        int laidBy(int k) {
            int laid = 0;
            for (int c = 0; c < MOST_CELLS; c++) {
                if (has(stones, c) && at(layers, c) == k) {
                    laid++;
                }
            }
            return laid;
        }

        int passedByAll() {
            int all = 0;
            for (int k = 0; k < MOST_WALKERS; k++) {
                all += at(passed, k);
            }
            return all;
        }

        /** Where SINK is 0 a STONE has 0 left to bear from the first, and so never gets from 1 to 0. */
        void stepOn(int c) {
            int left = at(bears, c);
            if (!has(stones, c) || left == 0) {
                return;
            }
            put(bears, c, left - 1);
            if (left == 1) {
                stones &= ~(1 << c);
                bog |= 1 << c;
                put(layers, c, NONE);
            }
        }

        void lay(int k, int c, int sink) {
            bog &= ~(1 << c);
            stones |= 1 << c;
            put(bears, c, sink);
            put(layers, c, k);
            put(passed, k, at(passed, k) + 1);
        }
    }

    /** STEPS and WAYS over whatever CELLS bear. */
    private static final class Ways {
        private int wide;
        private int all;
        private int firstColumn;
        private int lastColumn;

        void measure(int width, int height) {
            wide = width;
            all = (1 << width * height) - 1;
            firstColumn = 0;
            lastColumn = 0;
            for (int row = 0; row < height; row++) {
                firstColumn |= 1 << row * width;
                lastColumn |= 1 << row * width + width - 1;
            }
        }

        /** The CELLS one or two off in row or column; the columns at the sides keep a row from running into the next. */
        int near(int some) {
            int right = (some & ~lastColumn) << 1;
            int left = (some & ~firstColumn) >>> 1;
            int down = some << wide & all;
            int up = some >>> wide;
            int oneOff = right | left | down | up;
            int twoOff = (right & ~lastColumn) << 1 | (left & ~firstColumn) >>> 1 | down << wide & all | up >>> wide;
            return oneOff | twoOff;
        }

        int spread(int some, int bearing) {
            int reached = some;
            for (int i = 0; i < MOST_CELLS; i++) {
                int wider = reached | near(reached) & bearing;
                if (wider == reached) {
                    return reached;
                }
                reached = wider;
            }
            return reached;
        }

        boolean joins(int a, int b, int bearing) {
            return has(bearing, a) && has(bearing, b) && has(spread(1 << a, bearing), b);
        }

        int fewestSteps(int a, int b, int bearing) {
            if (!has(bearing, a) || !has(bearing, b)) {
                return NONE;
            }
            int reached = 1 << a;
            for (int steps = 0; steps < MOST_CELLS; steps++) {
                if (has(reached, b)) {
                    return steps;
                }
                int wider = reached | near(reached) & bearing;
                if (wider == reached) {
                    return NONE;
                }
                reached = wider;
            }
            return NONE;
        }

        /** The least CELL that is one STEP on from a and one STEP nearer to b: such CELLS make the first WAY. */
        int nextCell(int a, int b, int bearing) {
            int left = fewestSteps(a, b, bearing);
            int next = near(1 << a) & bearing;
            for (int c = 0; c < MOST_CELLS; c++) {
                if (has(next, c) && fewestSteps(c, b, bearing) == left - 1) {
                    return c;
                }
            }
            return a;
        }

        /** Every round lays one STONE more, wherever the CELLS that were reached have BOG near them. */
        int fewestStones(int a, int b, int bearing) {
            int laid = has(bearing, a) ? 0 : 1;
            int reached = spread(1 << a, bearing);
            while (!has(reached, b) && laid < MOST_CELLS) {
                reached = spread(reached | near(reached), bearing);
                laid++;
            }
            return laid;
        }
    }

    /**
     * What is best of all that could be laid or could sink. The sets within a set are gone through as
     * (part - whole) & whole, from the least on, so that of several the least is met first.
     */
    private static final class Plans {
        private final Ways ways;
        private final int[] laidTill;

        Plans() {
            ways = new Ways();
            laidTill = new int[1 << MOST_BOG_BY_TURNS];
        }

        int bestToLay(int a, int b, int bearing, int bog) {
            int best = NONE;
            int fewest = MOST_CELLS + 1;
            for (int c = 0; c < MOST_CELLS; c++) {
                if (has(bog, c)) {
                    int steps = ways.fewestSteps(a, b, bearing | 1 << c);
                    int length = steps == NONE ? MOST_CELLS : steps;
                    if (length < fewest) {
                        fewest = length;
                        best = c;
                    }
                }
            }
            return best;
        }

        int leastJoining(int set, int bearing, int bog) {
            int sets = 1 << Integer.bitCount(bog);
            int best = bog;
            int part = 0;
            for (int i = 0; i < sets; i++) {
                if (Integer.bitCount(part) < Integer.bitCount(best) && joinsAll(set, bearing | part)) {
                    best = part;
                }
                part = part - bog & bog;
            }
            return best;
        }

        private boolean joinsAll(int set, int bearing) {
            int first = set & -set;
            return (set & ~bearing) == 0 && (set & ~ways.spread(first, bearing)) == 0;
        }

        /** From all of the BOG laid down to none of it: what comes of laying one more is known then. */
        int laidByTurns(int a, int b, int bearing, int bog) {
            int free = Integer.bitCount(bog);
            int part = bog;
            for (int i = (1 << free) - 1; i >= 0; i--) {
                boolean over = ways.joins(a, b, bearing | part);
                put(laidTill, i, over ? 0 : 1 + bestOfNext(i, free));
                part = part - 1 & bog;
            }
            return at(laidTill, 0);
        }

        private int bestOfNext(int i, int free) {
            boolean soon = Integer.bitCount(i) % 2 == 0;
            int best = soon ? MOST_CELLS : 0;
            for (int j = 0; j < free; j++) {
                if (!has(i, j)) {
                    int then = at(laidTill, i | 1 << j);
                    best = soon ? Math.min(best, then) : Math.max(best, then);
                }
            }
            return best;
        }

        /** With nothing near a that bears b is out of reach, so no more than that has to go. */
        int fewestApart(int a, int b, int others) {
            int sets = 1 << Integer.bitCount(others);
            int fewest = Integer.bitCount(ways.near(1 << a) & others);
            int ends = 1 << a | 1 << b;
            int part = 0;
            for (int i = 0; i < sets; i++) {
                if (Integer.bitCount(part) < fewest && !ways.joins(a, b, ends | others & ~part)) {
                    fewest = Integer.bitCount(part);
                }
                part = part - others & others;
            }
            return fewest;
        }
    }
}
