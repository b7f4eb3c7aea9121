/**
 * Root systems of two letters. The numbered promises that each call keeps stand in DOC.md;
 * words in capitals in the comments here are that document's.
 */
public final class EndlessRoots {
    public static final int NONE = -1, BAD = -2, STATE = -3, FULL = -4;
    /** There is no such number. */
    public static final long NO = Long.MIN_VALUE;

    private static final int NOTHING = -11, CAST = -12, PLACE = -13, SIZE = -14;
    private static final int NONE_OTHERWISE = -5;
    private static final int SORT_NONE = 0, SORT_REAL = 1, SORT_OTHER = 2;
    private static final int MOST_IN_TABLE = 6;
    private static final int FARTHEST = 999;
    private static final int FARTHEST_STRING = 99;
    private static final int FARTHEST_SEEN = 12;
    private static final int TOP = 12;
    private static final int SIDE = TOP + 1;
    private static final int MOST_BOOKED = 999;
    private static final int MOST_IN_WORD = 24;
    private static final int INTS = 2;

    private final Setting now = new Setting();
    private final Setting saved = new Setting();
    private boolean imaged = false;
    private final Ground trial = new Ground();
    private final Lowering lowering = new Lowering();
    private final Counts counts = new Counts(lowering);
    private final Expansion expansion = new Expansion();
    private final SetUp setUp = new SetUp();
    private final Tapes tapes = new Tapes();

    public EndlessRoots() {
    }

    // ---- the table, a place

    public int table(int a, int b) {
        if (!isIn(a, 1, MOST_IN_TABLE) || !isIn(b, 1, MOST_IN_TABLE)) {
            return BAD;
        }
        int before = tableNumber();
        now.ground.a = a;
        now.ground.b = b;
        return before;
    }

    public int place(int x, int y) {
        if (!isPlace(x, y)) {
            return BAD;
        }
        now.ground.x = x;
        now.ground.y = y;
        return sortNow(x, y);
    }

    public int carry(int i) {
        if (!isIn(i, 0, 1)) {
            return NONE;
        }
        if (!now.ground.carryBy(i)) {
            return STATE;
        }
        return now.ground.x + now.ground.y + 5000;
    }

    public int note() {
        for (int k = 0; k < now.notes.size(); k++) {
            if (now.notes.cell(k, 0) == now.ground.x && now.notes.cell(k, 1) == now.ground.y) {
                return STATE;
            }
        }
        return now.notes.put(now.ground.x, now.ground.y, 0);
    }

    public int wipe() {
        int before = now.notes.size();
        now.notes.clear();
        return before;
    }

    public int feed(int sign) {
        if (!isIn(sign, 0, 127)) {
            return BAD;
        }
        return setUp.append(sign);
    }

    public int read() {
        int fault = setUp.findFault();
        int done = 0;
        for (int k = 0; fault < 0 && k < setUp.size(); k++) {
            if (doClause(setUp.kind(k), setUp.first(k), setUp.second(k))) {
                done++;
            }
        }
        setUp.clear();
        return fault < 0 ? done : -10 - fault;
    }

    /** Answers whether the CLAUSE was done; one that would be refused isn't. */
    private boolean doClause(int kind, int first, int second) {
        switch (kind) {
            case SetUp.TABLE:
                return table(first, second) >= 0;
            case SetUp.AT:
                return place(first, second) >= 0;
            case SetUp.WORD:
                return carryByWord(first, second);
            case SetUp.NOTE:
                return note() >= 0;
            case SetUp.WIPE:
                return wipe() >= 0;
            default:
                return false;
        }
    }

    /** Carries a trial first, so that a WORD that leaves on the way changes nothing. */
    private boolean carryByWord(int from, int signs) {
        trial.copyFrom(now.ground);
        for (int k = 0; k < signs; k++) {
            if (!trial.carryBy(setUp.byteAt(from + k) - '0')) {
                return false;
            }
        }
        now.ground.copyFrom(trial);
        return true;
    }

    // ---- what is told

    public int told(int what) {
        switch (what) {
            case 0:
                return now.ground.a;
            case 1:
                return now.ground.b;
            case 2:
                return kindOf(now.ground.a, now.ground.b);
            case 3:
                return now.ground.x + 1000;
            case 4:
                return now.ground.y + 1000;
            case 5:
                return sortNow(now.ground.x, now.ground.y);
            case 6:
                return now.notes.size();
            default:
                return NONE;
        }
    }

    public int noted(int note, int what) {
        if (!isIn(note, 0, now.notes.size() - 1) || !isIn(what, 0, 2)) {
            return NONE;
        }
        int x = now.notes.cell(note, 0);
        int y = now.notes.cell(note, 1);
        if (what == 2) {
            return sortNow(x, y);
        }
        return (what == 0 ? x : y) + 1000;
    }

    public long norm(int x, int y) {
        if (!isPlace(x, y)) {
            return NO;
        }
        return normOf(now.ground.a, now.ground.b, x, y);
    }

    public long product(int x, int y, int u, int v) {
        if (!isPlace(x, y) || !isPlace(u, v)) {
            return NO;
        }
        return productOf(now.ground.a, now.ground.b, x, y, u, v);
    }

    public int coat(int i, int x, int y) {
        if (!isIn(i, 0, 1)) {
            return NONE;
        }
        if (!isPlace(x, y)) {
            return BAD;
        }
        return (i == 0 ? coatOf(now.ground.a, x, y) : coatOf(now.ground.b, y, x)) + 10000;
    }

    public int sort(int x, int y) {
        if (!isPlace(x, y)) {
            return BAD;
        }
        return sortNow(x, y);
    }

    public int lowered(int x, int y, int what) {
        if (!isIn(x, 0, FARTHEST) || !isIn(y, 0, FARTHEST)) {
            return BAD;
        }
        if (!isIn(what, 0, 2)) {
            return NONE;
        }
        lowering.lower(now.ground.a, now.ground.b, x, y);
        if (what == 2) {
            return lowering.steps;
        }
        return (what == 0 ? lowering.x : lowering.y) + 1000;
    }

    // ---- strings, counts

    public int string(int i, int x, int y, int what) {
        if (!isIn(i, 0, 1) || !isIn(what, 0, 1)) {
            return NONE;
        }
        if (!isIn(x, -FARTHEST_STRING, FARTHEST_STRING) || !isIn(y, -FARTHEST_STRING, FARTHEST_STRING)) {
            return BAD;
        }
        if (sortNow(x, y) == SORT_NONE || isOnOwnLine(i, x, y)) {
            return STATE;
        }
        int step = what == 0 ? -1 : 1;
        return rootsAhead(x, y, i == 0 ? step : 0, i == 0 ? 0 : step);
    }

    /** Whether a ROOT is the letter i itself, or what is opposite to it: of these no STRING by i is told. */
    private static boolean isOnOwnLine(int i, int x, int y) {
        return i == 0 ? y == 0 : x == 0;
    }

    private int rootsAhead(int x, int y, int stepX, int stepY) {
        int passed = 0;
        for (int k = 1; k <= 2 * FARTHEST; k++) {
            int nextX = x + k * stepX;
            int nextY = y + k * stepY;
            if (!isPlace(nextX, nextY) || sortNow(nextX, nextY) == SORT_NONE) {
                return passed;
            }
            passed++;
        }
        return passed;
    }

    public int counted(int x, int y) {
        if (!isCountable(x, y)) {
            return BAD;
        }
        counts.fillFor(now.ground.a, now.ground.b);
        return counts.countAt(x, y);
    }

    public long c(int x, int y, int part) {
        if (!isCountable(x, y) || !isIn(part, 0, 1)) {
            return NO;
        }
        counts.fillFor(now.ground.a, now.ground.b);
        return partOf(counts.shareAt(x, y), Counts.WHOLE, part);
    }

    public int level(int h, int what) {
        if (!isIn(h, 1, TOP)) {
            return BAD;
        }
        if (!isIn(what, 0, 1)) {
            return NONE;
        }
        counts.fillFor(now.ground.a, now.ground.b);
        return what == 0 ? counts.rootsOfHeight(h) : counts.sumOfHeight(h);
    }

    public long made(int x, int y) {
        if (!isSmall(x, y)) {
            return NO;
        }
        counts.fillFor(now.ground.a, now.ground.b);
        expansion.fillFrom(counts);
        return expansion.coefficientAt(x, y);
    }

    public int signed(int x, int y) {
        if (!isSmall(x, y)) {
            return BAD;
        }
        int byZero = shortestWordTo(x, y, 0);
        int byOne = shortestWordTo(x, y, 1);
        if (byZero < 0 && byOne < 0) {
            return 1;
        }
        int shortest = byZero < 0 || (byOne >= 0 && byOne < byZero) ? byOne : byZero;
        return shortest % 2 == 0 ? 2 : 0;
    }

    /** How many signs the shortest WORD that begins with a sign needs from 0, 0 to x, y; -1: none comes there. */
    private int shortestWordTo(int x, int y, int firstSign) {
        int p = 0;
        int q = 0;
        int sign = firstSign;
        for (int k = 0; k <= MOST_IN_WORD; k++) {
            if (p == x && q == y) {
                return k;
            }
            // A table with an end stays far below this; one without never comes back from there.
            if (p > FARTHEST || q > FARTHEST) {
                return -1;
            }
            if (sign == 0) {
                p = now.ground.a * q - p + 1;
            } else {
                q = now.ground.b * p - q + 1;
            }
            sign = 1 - sign;
        }
        return -1;
    }

    // ---- seen, odds

    public int see(int x, int y, int sort) {
        if (x == -100) {
            now.seen.clear();
            return 0;
        }
        if (!isIn(x, -FARTHEST_SEEN, FARTHEST_SEEN) || !isIn(y, -FARTHEST_SEEN, FARTHEST_SEEN)) {
            return BAD;
        }
        if (!isIn(sort, SORT_NONE, SORT_OTHER)) {
            return BAD;
        }
        return now.seen.put(x, y, sort);
    }

    public int fits() {
        int bits = 0;
        for (int a = 1; a <= MOST_IN_TABLE; a++) {
            if (isAllSeenBy(a)) {
                bits |= 1 << (a - 1);
            }
        }
        return bits;
    }

    private boolean isAllSeenBy(int a) {
        Rows seen = now.seen;
        for (int k = 0; k < seen.size(); k++) {
            if (lowering.sortOf(a, now.ground.b, seen.cell(k, 0), seen.cell(k, 1)) != seen.cell(k, 2)) {
                return false;
            }
        }
        return true;
    }

    public long odds(int h, int part) {
        if (!isIn(h, 1, TOP) || !isIn(part, 0, 1)) {
            return NO;
        }
        counts.fillFor(now.ground.a, now.ground.b);
        return partOf(counts.rootsOfHeight(h), h + 1, part);
    }

    public long mean(int h, int part) {
        if (!isIn(h, 1, TOP) || !isIn(part, 0, 1)) {
            return NO;
        }
        counts.fillFor(now.ground.a, now.ground.b);
        return partOf(counts.sumOfHeight(h), h + 1, part);
    }

    // ---- events, books

    public int event(int what, int n) {
        if (what == -1) {
            now.events.clear();
            return 0;
        }
        switch (what) {
            case 0:
                return isIn(n, 0, 1) ? now.events.put(what, n, 0) : BAD;
            case 1:
                return isIn(n, 1, MOST_IN_TABLE) ? now.events.put(what, n, 0) : BAD;
            case 2:
                return n == 0 ? now.events.put(what, n, 0) : BAD;
            default:
                return NONE;
        }
    }

    public long after(int what) {
        if (!isIn(what, 0, 2)) {
            return NO;
        }
        trial.copyFrom(now.ground);
        for (int k = 0; k < now.events.size(); k++) {
            happen(now.events.cell(k, 0), now.events.cell(k, 1));
        }
        if (what == 0) {
            return lowering.sortOf(trial.a, trial.b, trial.x, trial.y);
        }
        return what == 1 ? kindOf(trial.a, trial.b) : normOf(trial.a, trial.b, trial.x, trial.y);
    }

    /** An EVENT on the trial. */
    private void happen(int what, int n) {
        if (what == 0) {
            trial.carryBy(n);
        } else if (what == 1) {
            trial.a = n;
        } else {
            trial.swap();
        }
    }

    public int book(int x, int y, int n) {
        if (x == -1) {
            now.book.clear();
            return 0;
        }
        if (!isCountable(x, y) || !isIn(n, 0, MOST_BOOKED)) {
            return BAD;
        }
        return now.book.put(x, y, n);
    }

    public int looked() {
        counts.fillFor(now.ground.a, now.ground.b);
        Rows book = now.book;
        for (int k = 0; k < book.size(); k++) {
            if (counts.countAt(book.cell(k, 0), book.cell(k, 1)) != book.cell(k, 2)) {
                return k;
            }
        }
        return NONE_OTHERWISE;
    }

    // ---- judging, the image, tapes

    public int judge(int tape, int i) {
        if (!tapes.isTape(tape)) {
            return NONE;
        }
        if (tapes.holds(tape) && tapes.sortAt(tape) != INTS) {
            return CAST;
        }
        counts.fillFor(now.ground.a, now.ground.b);
        for (int h = 1; h <= TOP; h++) {
            if (!tapes.hasRun(tape, i, h)) {
                return 100 + h - 1;
            }
            if (tapes.itemAt(tape, i + h - 1) != counts.sumOfHeight(h)) {
                return h;
            }
        }
        return NONE_OTHERWISE;
    }

    public int image() {
        saved.copyFrom(now);
        imaged = true;
        return tableNumber();
    }

    public int undo() {
        if (!imaged) {
            return STATE;
        }
        now.copyFrom(saved);
        return tableNumber();
    }

    public int count(int what) {
        switch (what) {
            case 0:
                return now.seen.size();
            case 1:
                return now.events.size();
            case 2:
                return now.book.size();
            case 3:
                return setUp.bytes();
            default:
                return BAD;
        }
    }

    public int tape(int tape, int sort, int n) {
        if (!tapes.isTape(tape)) {
            return NONE;
        }
        if (sort == Tapes.HOLDS_NOTHING) {
            tapes.drop(tape);
            return 1;
        }
        if (!isIn(sort, 0, Tapes.BOOLEANS) || n > Tapes.LONGEST) {
            return BAD;
        }
        if (n < 0) {
            return SIZE;
        }
        tapes.become(tape, sort, n);
        return 1;
    }

    public int item(int tape, int i, long v) {
        if (!tapes.isTape(tape)) {
            return NONE;
        }
        if (!tapes.holds(tape)) {
            return NOTHING;
        }
        if (!tapes.hasRun(tape, i, 1)) {
            return PLACE;
        }
        tapes.setItem(tape, i, v);
        return 1;
    }

    public long peek(int tape, int i) {
        if (!tapes.isTape(tape) || !tapes.hasRun(tape, i, 1)) {
            return NO;
        }
        return tapes.itemAt(tape, i);
    }

    public int shift(int tape, int i, int other, int j, int n) {
        if (!tapes.isTape(tape) || !tapes.isTape(other)) {
            return NONE;
        }
        if (!tapes.holds(tape) || !tapes.holds(other)) {
            return NOTHING;
        }
        if (tapes.sortAt(tape) != tapes.sortAt(other)) {
            return CAST;
        }
        if (!tapes.hasRun(tape, i, n) || !tapes.hasRun(other, j, n)) {
            return PLACE;
        }
        tapes.copyRun(tape, i, other, j, n);
        return n;
    }

    // ---- what these share

    private int tableNumber() {
        return 10 * now.ground.a + now.ground.b;
    }

    private int sortNow(int x, int y) {
        return lowering.sortOf(now.ground.a, now.ground.b, x, y);
    }

    private static boolean isIn(int n, int least, int most) {
        return n >= least && n <= most;
    }

    private static boolean isPlace(int x, int y) {
        return isIn(x, -FARTHEST, FARTHEST) && isIn(y, -FARTHEST, FARTHEST);
    }

    /** Neither x nor y below 0, HEIGHT 0 to 12. */
    private static boolean isSmall(int x, int y) {
        return x >= 0 && x <= TOP && y >= 0 && y <= TOP && x + y <= TOP;
    }

    private static boolean isCountable(int x, int y) {
        return isSmall(x, y) && x + y >= 1;
    }

    private static int kindOf(int a, int b) {
        return a * b < 4 ? 0 : a * b == 4 ? 1 : 2;
    }

    /** COAT of the letter that own counts; n is a for 0 and b for 1. */
    private static int coatOf(int n, int own, int opposite) {
        return 2 * own - n * opposite;
    }

    private static long normOf(int a, int b, int x, int y) {
        return productOf(a, b, x, y, x, y);
    }

    private static long productOf(int a, int b, long x, long y, long u, long v) {
        return 2L * b * x * u - (long) a * b * (x * v + y * u) + 2L * a * y * v;
    }

    /** Above (part 0) or below (part 1) the line of a fraction in lowest terms; below is above 0. */
    private static long partOf(long above, long below, int part) {
        long divisor = commonDivisor(above, below);
        if (divisor == 0) {
            return NO;
        }
        return part == 0 ? above / divisor : below / divisor;
    }

    private static long commonDivisor(long n, long m) {
        long large = Math.abs(n);
        long small = Math.abs(m);
        // Euclid's steps on longs are fewer than a hundred.
        for (int k = 0; k < 200 && small != 0; k++) {
            long rest = large % small;
            large = small;
            small = rest;
        }
        return large;
    }

    /** At most so many rows of two or three numbers. */
    private static final class Rows {
        private static final int WIDTH = 3;
        private final int limit;
        private final int[] cells;
        private int used = 0;

        Rows(int limit) {
            this.limit = Math.max(0, limit);
            this.cells = new int[WIDTH * this.limit];
        }

        int size() {
            return used;
        }

        void clear() {
            used = 0;
        }

        int put(int first, int second, int third) {
            if (used >= limit) {
                return FULL;
            }
            cells[WIDTH * used] = first;
            cells[WIDTH * used + 1] = second;
            cells[WIDTH * used + 2] = third;
            used++;
            return used;
        }

        int cell(int row, int column) {
            if (!isIn(row, 0, used - 1) || !isIn(column, 0, WIDTH - 1)) {
                return 0;
            }
            return cells[WIDTH * row + column];
        }

        void copyFrom(Rows other) {
            used = 0;
            for (int k = 0; k < other.size(); k++) {
                put(other.cell(k, 0), other.cell(k, 1), other.cell(k, 2));
            }
        }
    }

    /** The table, and AT. */
    private static final class Ground {
        private int a = 2;
        private int b = 2;
        private int x = 1;
        private int y = 0;

        /** Answers whether AT was carried; it isn't, if it would leave. */
        boolean carryBy(int i) {
            int nextX = i == 0 ? a * y - x : x;
            int nextY = i == 0 ? y : b * x - y;
            if (!isPlace(nextX, nextY)) {
                return false;
            }
            x = nextX;
            y = nextY;
            return true;
        }

        void swap() {
            int formerA = a;
            a = b;
            b = formerA;
            int formerX = x;
            x = y;
            y = formerX;
        }

        void copyFrom(Ground other) {
            a = other.a;
            b = other.b;
            x = other.x;
            y = other.y;
        }
    }

    /** All that THE IMAGE holds. */
    private static final class Setting {
        private final Ground ground = new Ground();
        private final Rows notes = new Rows(8);
        private final Rows seen = new Rows(4);
        private final Rows events = new Rows(8);
        private final Rows book = new Rows(8);

        void copyFrom(Setting other) {
            ground.copyFrom(other.ground);
            notes.copyFrom(other.notes);
            seen.copyFrom(other.seen);
            events.copyFrom(other.events);
            book.copyFrom(other.book);
        }
    }

    /** What a PLACE is LOWERED to, and what is met on the way. */
    private static final class Lowering {
        /** Each step takes 1 or more from a HEIGHT of 1998 at most. */
        private static final int MOST_STEPS = 4000;
        private int x = 0;
        private int y = 0;
        private int steps = 0;
        private boolean metLetter = false;

        void lower(int a, int b, int fromX, int fromY) {
            x = fromX;
            y = fromY;
            steps = 0;
            metLetter = isLetter();
            while (steps < MOST_STEPS && x >= 0 && y >= 0) {
                if (coatOf(a, x, y) > 0) {
                    x = a * y - x;
                } else if (coatOf(b, y, x) > 0) {
                    y = b * x - y;
                } else {
                    return;
                }
                steps++;
                metLetter = metLetter || isLetter();
            }
        }

        private boolean isLetter() {
            return (x == 1 && y == 0) || (x == 0 && y == 1);
        }

        int sortOf(int a, int b, int ofX, int ofY) {
            if ((ofX > 0 && ofY < 0) || (ofX < 0 && ofY > 0)) {
                return SORT_NONE;
            }
            lower(a, b, Math.abs(ofX), Math.abs(ofY));
            if (metLetter) {
                return SORT_REAL;
            }
            return x > 0 && y > 0 ? SORT_OTHER : SORT_NONE;
        }
    }

    /** SORT, COUNTED and C of all PLACES of HEIGHT 1 to 12, kept until another table is asked for. */
    private static final class Counts {
        /** All of 1 to 12 divide it, so C times this is whole. */
        private static final int WHOLE = 27720;
        private final Lowering lowering;
        private final int[] sorts = new int[SIDE * SIDE];
        private final int[] counts = new int[SIDE * SIDE];
        private final long[] shares = new long[SIDE * SIDE];
        private int a = 0;
        private int b = 0;

        Counts(Lowering lowering) {
            this.lowering = lowering;
        }

        void fillFor(int newA, int newB) {
            if (a == newA && b == newB) {
                return;
            }
            a = newA;
            b = newB;
            for (int h = 1; h <= TOP; h++) {
                for (int x = 0; x <= h; x++) {
                    fillPlace(x, h - x);
                }
            }
        }

        /** Needs all PLACES of lesser HEIGHT. */
        private void fillPlace(int x, int y) {
            int spot = SIDE * x + y;
            int sort = lowering.sortOf(a, b, x, y);
            long ofParts = sharesOfParts(x, y);
            sorts[spot] = sort;
            if (sort == SORT_REAL) {
                counts[spot] = 1;
                shares[spot] = WHOLE;
            } else if (sort == SORT_OTHER) {
                shares[spot] = shareOfOther(x, y);
                counts[spot] = (int) ((shares[spot] - ofParts) / WHOLE);
            } else {
                counts[spot] = 0;
                shares[spot] = ofParts;
            }
        }

        private long sharesOfParts(int x, int y) {
            long sum = 0;
            for (int n = 2; n <= TOP; n++) {
                if (x % n == 0 && y % n == 0) {
                    sum += (long) countAt(x / n, y / n) * (WHOLE / n);
                }
            }
            return sum;
        }

        private long shareOfOther(int x, int y) {
            long sum = 0;
            for (int u = 0; u <= x; u++) {
                for (int v = 0; v <= y; v++) {
                    if (isCountable(u, v) && isCountable(x - u, y - v)) {
                        sum += productOf(a, b, u, v, x - u, y - v) * shareAt(u, v) * shareAt(x - u, y - v);
                    }
                }
            }
            long divisor = (normOf(a, b, x, y) - 2L * (b * x + a * y)) * WHOLE;
            // NORM of an OTHER is never above 0, so this is below 0.
            return divisor == 0 ? 0 : sum / divisor;
        }

        int countAt(int x, int y) {
            return isCountable(x, y) ? counts[SIDE * x + y] : 0;
        }

        /** C, times WHOLE. */
        long shareAt(int x, int y) {
            return isCountable(x, y) ? shares[SIDE * x + y] : 0;
        }

        int rootsOfHeight(int h) {
            int found = 0;
            for (int x = 0; x <= h; x++) {
                if (isCountable(x, h - x) && sorts[SIDE * x + h - x] != SORT_NONE) {
                    found++;
                }
            }
            return found;
        }

        int sumOfHeight(int h) {
            int sum = 0;
            for (int x = 0; x <= h; x++) {
                sum += countAt(x, h - x);
            }
            return sum;
        }
    }

    /** The product whose coefficients are MADE, as far as HEIGHT 12; kept until another table is asked for. */
    private static final class Expansion {
        private final long[] coefficients = new long[SIDE * SIDE];
        private int a = 0;
        private int b = 0;

        void fillFrom(Counts counts) {
            if (a == counts.a && b == counts.b) {
                return;
            }
            a = counts.a;
            b = counts.b;
            for (int k = 0; k < coefficients.length; k++) {
                coefficients[k] = 0;
            }
            coefficients[0] = 1;
            for (int h = 1; h <= TOP; h++) {
                for (int u = 0; u <= h; u++) {
                    multiply(u, h - u, counts.countAt(u, h - u));
                }
            }
        }

        /** By (1 less s to the u t to the v), power times; from the top down, so that what is read is still as before. */
        private void multiply(int u, int v, int power) {
            if (power <= 0) {
                return;
            }
            for (int h = TOP; h >= u + v; h--) {
                for (int x = u; x <= h - v; x++) {
                    coefficients[SIDE * x + h - x] += fromBelow(x, h - x, u, v, power);
                }
            }
        }

        private long fromBelow(int x, int y, int u, int v, int power) {
            long sum = 0;
            long binomial = 1;
            for (int k = 1; k <= TOP && x >= k * u && y >= k * v; k++) {
                binomial = -binomial * (power - k + 1) / k;
                sum += binomial * coefficientAt(x - k * u, y - k * v);
            }
            return sum;
        }

        long coefficientAt(int x, int y) {
            return isSmall(x, y) ? coefficients[SIDE * x + y] : 0;
        }
    }

    /** THE TEXT, and the CLAUSES found in it. */
    private static final class SetUp {
        private static final int TABLE = 0, AT = 1, WORD = 2, NOTE = 3, WIPE = 4, KINDS = 5;
        private static final int MOST_BYTES = 100;
        private static final int MOST_CLAUSES = 12;
        private static final int MOST_SIGNS = 20;
        private static final int MOST_DIGITS = 3;
        private static final int END = -1;
        private final int[] text = new int[MOST_BYTES];
        private int length = 0;
        private final int[] kinds = new int[MOST_CLAUSES];
        /** Of a WORD: where its signs begin, how many they are; else the two numbers. */
        private final int[] firsts = new int[MOST_CLAUSES];
        private final int[] seconds = new int[MOST_CLAUSES];
        private int clauses = 0;
        private int spot = 0;
        private int value = 0;

        int append(int sign) {
            if (length >= MOST_BYTES) {
                return FULL;
            }
            text[length] = sign;
            length++;
            return length;
        }

        void clear() {
            length = 0;
        }

        int bytes() {
            return length;
        }

        int byteAt(int k) {
            return k >= 0 && k < length ? text[k] : END;
        }

        int size() {
            return clauses;
        }

        int kind(int k) {
            return isIn(k, 0, clauses - 1) ? kinds[k] : KINDS;
        }

        int first(int k) {
            return isIn(k, 0, clauses - 1) ? firsts[k] : 0;
        }

        int second(int k) {
            return isIn(k, 0, clauses - 1) ? seconds[k] : 0;
        }

        /** The FAULT, or -1. The spot never passes a byte that does not fit, so it comes to stand on the FAULT. */
        int findFault() {
            spot = 0;
            clauses = 0;
            for (int k = 0; k < MOST_CLAUSES; k++) {
                if (!takeClause(k)) {
                    return spot;
                }
                clauses = k + 1;
                if (spot == length) {
                    return -1;
                }
                if (clauses == MOST_CLAUSES || !takeByte(';')) {
                    return spot;
                }
            }
            return spot;
        }

        private boolean takeClause(int k) {
            int kind = takeKind();
            kinds[k] = kind;
            switch (kind) {
                case TABLE:
                    return takeTwo(k, 1, false);
                case AT:
                    return takeTwo(k, MOST_DIGITS, true);
                case WORD:
                    return takeSigns(k);
                case NOTE:
                case WIPE:
                    return true;
                default:
                    return false;
            }
        }

        /** Goes as far as any of the words does; KINDS: none stands here whole. */
        private int takeKind() {
            int start = spot;
            for (int kind = 0; kind < KINDS; kind++) {
                String word = wordOf(kind);
                int alike = 0;
                while (alike < word.length() && byteAt(start + alike) == word.charAt(alike)) {
                    alike++;
                }
                spot = Math.max(spot, start + alike);
                if (alike == word.length()) {
                    return kind;
                }
            }
            return KINDS;
        }

        private static String wordOf(int kind) {
            switch (kind) {
                case TABLE:
                    return "table";
                case AT:
                    return "at";
                case WORD:
                    return "word";
                case NOTE:
                    return "note";
                default:
                    return "wipe";
            }
        }

        private boolean takeTwo(int k, int mostDigits, boolean mayBeNegative) {
            if (!takeByte(' ') || !takeNumber(mostDigits, mayBeNegative)) {
                return false;
            }
            firsts[k] = value;
            if (!takeByte(' ') || !takeNumber(mostDigits, mayBeNegative)) {
                return false;
            }
            seconds[k] = value;
            return true;
        }

        /** Leaves what it finds in value. */
        private boolean takeNumber(int mostDigits, boolean mayBeNegative) {
            boolean negative = mayBeNegative && takeByte('-');
            int number = 0;
            int digits = 0;
            while (digits < mostDigits && byteAt(spot) >= '0' && byteAt(spot) <= '9') {
                number = 10 * number + byteAt(spot) - '0';
                spot++;
                digits++;
            }
            value = negative ? -number : number;
            return digits > 0;
        }

        private boolean takeSigns(int k) {
            if (!takeByte(' ')) {
                return false;
            }
            firsts[k] = spot;
            int found = 0;
            while (found < MOST_SIGNS && (takeByte('0') || takeByte('1'))) {
                found++;
            }
            seconds[k] = found;
            return found > 0;
        }

        private boolean takeByte(int sign) {
            if (byteAt(spot) != sign) {
                return false;
            }
            spot++;
            return true;
        }
    }

    /** The TAPES. Items of every sort are kept as longs, cut to their sort when they come. */
    private static final class Tapes {
        private static final int HOLDS_NOTHING = -1;
        private static final int BYTES = 0, SHORTS = 1, LONGS = 3, BOOLEANS = 4;
        private static final int HOW_MANY = 6;
        private static final int LONGEST = 60;
        private final int[] sorts = {
            HOLDS_NOTHING, HOLDS_NOTHING, HOLDS_NOTHING, HOLDS_NOTHING, HOLDS_NOTHING, HOLDS_NOTHING
        };
        private final int[] lengths = new int[HOW_MANY];
        private final long[] items = new long[HOW_MANY * LONGEST];

        boolean isTape(int tape) {
            return isIn(tape, 0, HOW_MANY - 1);
        }

        boolean holds(int tape) {
            return sortAt(tape) != HOLDS_NOTHING;
        }

        int sortAt(int tape) {
            return isTape(tape) ? sorts[tape] : HOLDS_NOTHING;
        }

        void drop(int tape) {
            if (isTape(tape)) {
                sorts[tape] = HOLDS_NOTHING;
                lengths[tape] = 0;
            }
        }

        void become(int tape, int sort, int n) {
            if (!isTape(tape) || !isIn(n, 0, LONGEST)) {
                return;
            }
            sorts[tape] = sort;
            lengths[tape] = n;
            for (int k = 0; k < n; k++) {
                items[LONGEST * tape + k] = 0;
            }
        }

        /** Whether a TAPE has n items from i on; the sum is a long, for i and n may be as large as ints get. */
        boolean hasRun(int tape, int i, int n) {
            return isTape(tape) && i >= 0 && n >= 0 && (long) i + n <= lengths[tape];
        }

        long itemAt(int tape, int i) {
            return hasRun(tape, i, 1) ? items[LONGEST * tape + i] : 0;
        }

        void setItem(int tape, int i, long v) {
            if (hasRun(tape, i, 1)) {
                items[LONGEST * tape + i] = cutTo(sorts[tape], v);
            }
        }

        private static long cutTo(int sort, long v) {
            switch (sort) {
                case BYTES:
                    return (byte) v;
                case SHORTS:
                    return (short) v;
                case INTS:
                    return (int) v;
                case LONGS:
                    return v;
                default:
                    return v != 0 ? 1 : 0;
            }
        }

        void copyRun(int tape, int i, int other, int j, int n) {
            if (hasRun(tape, i, n) && hasRun(other, j, n)) {
                System.arraycopy(items, LONGEST * tape + i, items, LONGEST * other + j, n);
            }
        }
    }
}
