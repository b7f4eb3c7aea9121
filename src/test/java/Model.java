import java.math.BigInteger;
import java.util.ArrayList;
import java.util.HashMap;
import java.util.HashSet;
import java.util.List;
import java.util.Map;
import java.util.Set;
import java.util.regex.Matcher;
import java.util.regex.Pattern;

/**
 * The document once more, by other ways than the program's: ROOTS by their orbits and their NORM instead of by
 * lowering, COUNTED from the sums of signs instead of from sums over twos, the FAULT by a pattern.
 */
final class Model {
    static final int NONE = -1, BAD = -2, STATE = -3, FULL = -4;
    static final int NOTHING = -11, CAST = -12, PLACE = -13, SIZE = -14;
    static final long NO = Long.MIN_VALUE;

    /** Whatever depends on a and b alone. */
    static final class Facts {
        final int a;
        final int b;
        private final Set<List<Integer>> reals = new HashSet<>();
        private final Map<List<Integer>, Integer> signs = new HashMap<>();
        private final Map<List<Integer>, Integer> mults = new HashMap<>();
        private final Map<List<Integer>, Long> product = new HashMap<>();

        Facts(int a, int b) {
            this.a = a;
            this.b = b;
            chainOfReals(1, 0, 1);
            chainOfReals(0, 1, 0);
            chainOfSigns(0);
            chainOfSigns(1);
            countAll();
        }

        private void chainOfReals(int x, int y, int i) {
            while (x >= 0 && y >= 0 && x <= 5000 && y <= 5000 && reals.add(List.of(x, y))) {
                if (i == 0) {
                    x = a * y - x;
                } else {
                    y = b * x - y;
                }
                i = 1 - i;
            }
        }

        private void chainOfSigns(int i) {
            BigInteger p = BigInteger.ZERO;
            BigInteger q = BigInteger.ZERO;
            for (int k = 0; k <= 24; k++) {
                if (p.add(q).bitLength() < 10) {
                    // Of two words to one place only the parity of the shortest counts; they never differ.
                    signs.putIfAbsent(List.of(p.intValue(), q.intValue()), k % 2 == 0 ? 1 : -1);
                }
                if (i == 0) {
                    p = q.multiply(BigInteger.valueOf(a)).subtract(p).add(BigInteger.ONE);
                } else {
                    q = p.multiply(BigInteger.valueOf(b)).subtract(q).add(BigInteger.ONE);
                }
                i = 1 - i;
            }
        }

        /** Height by height: what the roots so far make at a place, less the sign that is due there, is its count. */
        private void countAll() {
            product.put(List.of(0, 0), 1L);
            for (int h = 1; h <= 12; h++) {
                List<int[]> fresh = new ArrayList<>();
                for (int x = 0; x <= h; x++) {
                    int m = (int) (made(x, h - x) - sign(x, h - x));
                    mults.put(List.of(x, h - x), m);
                    fresh.add(new int[] {x, h - x, m});
                }
                for (int[] root : fresh) {
                    for (int k = 0; k < root[2]; k++) {
                        multiply(root[0], root[1]);
                    }
                }
            }
        }

        private void multiply(int u, int v) {
            Map<List<Integer>, Long> before = new HashMap<>(product);
            before.forEach((at, n) -> {
                if (at.get(0) + at.get(1) + u + v <= 12) {
                    product.merge(List.of(at.get(0) + u, at.get(1) + v), -n, Long::sum);
                }
            });
        }

        long made(int x, int y) {
            return product.getOrDefault(List.of(x, y), 0L);
        }

        int sign(int x, int y) {
            return signs.getOrDefault(List.of(x, y), 0);
        }

        int counted(int x, int y) {
            return mults.get(List.of(x, y));
        }

        /** C by its meaning: COUNTED of all parts, each by its number. */
        long[] c(int x, int y) {
            long above = 0;
            long below = 27720;
            for (int n = 1; n <= 12; n++) {
                if (x % n == 0 && y % n == 0) {
                    above += counted(x / n, y / n) * (below / n);
                }
            }
            return lowest(above, below);
        }

        long norm(long x, long y) {
            return 2 * b * x * x - 2 * a * b * x * y + 2 * a * y * y;
        }

        int sort(int x, int y) {
            if (x == 0 && y == 0) {
                return 0;
            }
            if (reals.contains(List.of(x, y)) || reals.contains(List.of(-x, -y))) {
                return 1;
            }
            return norm(x, y) <= 0 ? 2 : 0;
        }

        int kind() {
            return Integer.compare(a * b, 4) + 1;
        }

        int level(int h, int what) {
            int sum = 0;
            for (int x = 0; x <= h; x++) {
                sum += what == 0 ? Math.min(1, sort(x, h - x)) : counted(x, h - x);
            }
            return sum;
        }
    }

    private static final Map<Integer, Facts> ALL = new HashMap<>();

    static Facts facts(int a, int b) {
        return ALL.computeIfAbsent(10 * a + b, k -> new Facts(a, b));
    }

    static long[] lowest(long above, long below) {
        long g = BigInteger.valueOf(above).gcd(BigInteger.valueOf(below)).longValue();
        return new long[] {above / g, below / g};
    }

    int a = 2;
    int b = 2;
    int x = 1;
    int y = 0;
    List<List<Integer>> notes = new ArrayList<>();
    List<List<Integer>> seen = new ArrayList<>();
    List<List<Integer>> events = new ArrayList<>();
    List<List<Integer>> book = new ArrayList<>();
    String text = "";
    Model image = null;
    Object[] tapes = new Object[6];

    private Facts now() {
        return facts(a, b);
    }

    private static boolean in(int n, int least, int most) {
        return least <= n && n <= most;
    }

    private static boolean isPlace(int x, int y) {
        return Math.max(Math.abs((long) x), Math.abs((long) y)) < 1000;
    }

    private static boolean small(int x, int y, int least) {
        return in(x, 0, 12) && in(y, 0, 12) && in(x + y, least, 12);
    }

    int table(int a, int b) {
        if (!in(a, 1, 6) || !in(b, 1, 6)) {
            return BAD;
        }
        int before = 10 * this.a + this.b;
        this.a = a;
        this.b = b;
        return before;
    }

    int place(int x, int y) {
        if (!isPlace(x, y)) {
            return BAD;
        }
        this.x = x;
        this.y = y;
        return now().sort(x, y);
    }

    int carry(int i) {
        if (!in(i, 0, 1)) {
            return NONE;
        }
        int toX = i == 0 ? a * y - x : x;
        int toY = i == 1 ? b * x - y : y;
        if (!isPlace(toX, toY)) {
            return STATE;
        }
        x = toX;
        y = toY;
        return x + y + 5000;
    }

    int note() {
        if (notes.contains(List.of(x, y))) {
            return STATE;
        }
        if (notes.size() == 8) {
            return FULL;
        }
        notes.add(List.of(x, y));
        return notes.size();
    }

    int wipe() {
        int before = notes.size();
        notes.clear();
        return before;
    }

    int feed(int sign) {
        if (!in(sign, 0, 127)) {
            return BAD;
        }
        if (text.length() == 100) {
            return FULL;
        }
        text += (char) sign;
        return text.length();
    }

    private static final String CLAUSE =
        "(?:table [0-9] [0-9]|at -?[0-9]{1,3} -?[0-9]{1,3}|word [01]{1,20}|note|wipe)";
    private static final Pattern SET_UP = Pattern.compile(CLAUSE + "(?:;" + CLAUSE + "){0,11}", Pattern.DOTALL);

    int read() {
        String t = text;
        text = "";
        for (int n = 1; n <= t.length(); n++) {
            Matcher m = SET_UP.matcher(t.substring(0, n));
            if (!m.matches() && !m.hitEnd()) {
                return -10 - (n - 1);
            }
        }
        if (!SET_UP.matcher(t).matches()) {
            return -10 - t.length();
        }
        int done = 0;
        for (String clause : t.split(";")) {
            done += doClause(clause.split(" ")) ? 1 : 0;
        }
        return done;
    }

    private boolean doClause(String[] parts) {
        switch (parts[0]) {
            case "table":
                return table(Integer.parseInt(parts[1]), Integer.parseInt(parts[2])) != BAD;
            case "at":
                return place(Integer.parseInt(parts[1]), Integer.parseInt(parts[2])) != BAD;
            case "note":
                return note() > 0;
            case "wipe":
                wipe();
                return true;
            default:
                int wasX = x;
                int wasY = y;
                for (char sign : parts[1].toCharArray()) {
                    if (carry(sign == '1' ? 1 : 0) == STATE) {
                        x = wasX;
                        y = wasY;
                        return false;
                    }
                }
                return true;
        }
    }

    int told(int what) {
        int[] all = {a, b, now().kind(), x + 1000, y + 1000, now().sort(x, y), notes.size()};
        return in(what, 0, 6) ? all[what] : NONE;
    }

    int noted(int note, int what) {
        if (!in(note, 0, notes.size() - 1) || !in(what, 0, 2)) {
            return NONE;
        }
        int nx = notes.get(note).get(0);
        int ny = notes.get(note).get(1);
        return new int[] {nx + 1000, ny + 1000, now().sort(nx, ny)}[what];
    }

    long norm(int x, int y) {
        return isPlace(x, y) ? now().norm(x, y) : NO;
    }

    /** By NORM of the sum, less those of the two. */
    long product(int x, int y, int u, int v) {
        if (!isPlace(x, y) || !isPlace(u, v)) {
            return NO;
        }
        return (now().norm(x + u, y + v) - now().norm(x, y) - now().norm(u, v)) / 2;
    }

    int coat(int i, int x, int y) {
        if (!in(i, 0, 1)) {
            return NONE;
        }
        if (!isPlace(x, y)) {
            return BAD;
        }
        return 10000 + new int[] {2 * x - a * y, 2 * y - b * x}[i];
    }

    int sort(int x, int y) {
        return isPlace(x, y) ? now().sort(x, y) : BAD;
    }

    int lowered(int x, int y, int what) {
        if (!in(x, 0, 999) || !in(y, 0, 999)) {
            return BAD;
        }
        if (!in(what, 0, 2)) {
            return NONE;
        }
        int times = 0;
        while (x >= 0 && y >= 0 && (2 * x > a * y || 2 * y > b * x)) {
            if (2 * x > a * y) {
                x = a * y - x;
            } else {
                y = b * x - y;
            }
            times++;
        }
        return new int[] {x + 1000, y + 1000, times}[what];
    }

    int string(int i, int x, int y, int what) {
        if (!in(i, 0, 1) || !in(what, 0, 1)) {
            return NONE;
        }
        if (!in(x, -99, 99) || !in(y, -99, 99)) {
            return BAD;
        }
        int own = i == 0 ? x : y;
        int opposite = i == 0 ? y : x;
        if (now().sort(x, y) == 0 || (opposite == 0 && Math.abs(own) == 1)) {
            return STATE;
        }
        int far = 0;
        int step = what == 0 ? -1 : 1;
        do {
            far += step;
        } while (i == 0 ? now().sort(x + far, y) > 0 : now().sort(x, y + far) > 0);
        return Math.abs(far) - 1;
    }

    int counted(int x, int y) {
        return small(x, y, 1) ? now().counted(x, y) : BAD;
    }

    long c(int x, int y, int part) {
        return small(x, y, 1) && in(part, 0, 1) ? now().c(x, y)[part] : NO;
    }

    int level(int h, int what) {
        return !in(h, 1, 12) ? BAD : !in(what, 0, 1) ? NONE : now().level(h, what);
    }

    long made(int x, int y) {
        return small(x, y, 0) ? now().made(x, y) : NO;
    }

    int signed(int x, int y) {
        return small(x, y, 0) ? now().sign(x, y) + 1 : BAD;
    }

    int see(int x, int y, int sort) {
        if (x == -100) {
            seen.clear();
            return 0;
        }
        if (!in(x, -12, 12) || !in(y, -12, 12) || !in(sort, 0, 2)) {
            return BAD;
        }
        if (seen.size() == 4) {
            return FULL;
        }
        seen.add(List.of(x, y, sort));
        return seen.size();
    }

    int fits() {
        int bits = 0;
        for (int other = 1; other <= 6; other++) {
            Facts f = facts(other, b);
            if (seen.stream().allMatch(row -> f.sort(row.get(0), row.get(1)) == row.get(2))) {
                bits += (int) Math.pow(2, other - 1);
            }
        }
        return bits;
    }

    long odds(int h, int part) {
        return in(h, 1, 12) && in(part, 0, 1) ? lowest(now().level(h, 0), h + 1)[part] : NO;
    }

    long mean(int h, int part) {
        return in(h, 1, 12) && in(part, 0, 1) ? lowest(now().level(h, 1), h + 1)[part] : NO;
    }

    int event(int what, int n) {
        if (what == -1) {
            events.clear();
            return 0;
        }
        if (!in(what, 0, 2)) {
            return NONE;
        }
        if (!in(n, new int[] {0, 1, 0}[what], new int[] {1, 6, 0}[what])) {
            return BAD;
        }
        if (events.size() == 8) {
            return FULL;
        }
        events.add(List.of(what, n));
        return events.size();
    }

    long after(int what) {
        Model m = new Model();
        m.a = a;
        m.b = b;
        m.x = x;
        m.y = y;
        for (List<Integer> row : events) {
            int n = row.get(1);
            if (row.get(0) == 0) {
                m.carry(n);
            } else if (row.get(0) == 1) {
                m.a = n;
            } else {
                int[] turned = {m.b, m.a, m.y, m.x};
                m.a = turned[0];
                m.b = turned[1];
                m.x = turned[2];
                m.y = turned[3];
            }
        }
        return what == 0 ? m.told(5) : what == 1 ? m.told(2) : what == 2 ? m.norm(m.x, m.y) : NO;
    }

    int book(int x, int y, int n) {
        if (x == -1) {
            book.clear();
            return 0;
        }
        if (!small(x, y, 1) || !in(n, 0, 999)) {
            return BAD;
        }
        if (book.size() == 8) {
            return FULL;
        }
        book.add(List.of(x, y, n));
        return book.size();
    }

    int looked() {
        for (List<Integer> row : book) {
            if (counted(row.get(0), row.get(1)) != row.get(2)) {
                return book.indexOf(row);
            }
        }
        return -5;
    }

    int judge(int tape, int i) {
        if (!in(tape, 0, 5)) {
            return NONE;
        }
        if (tapes[tape] == null) {
            return 100;
        }
        if (!(tapes[tape] instanceof int[])) {
            return CAST;
        }
        int[] row = (int[]) tapes[tape];
        int looked = 0;
        while (looked < 12 && i >= 0 && i < row.length - looked) {
            if (row[i + looked] != now().level(looked + 1, 1)) {
                return looked + 1;
            }
            looked++;
        }
        return looked == 12 ? -5 : 100 + looked;
    }

    private void copyFrom(Model m) {
        a = m.a;
        b = m.b;
        x = m.x;
        y = m.y;
        notes = new ArrayList<>(m.notes);
        seen = new ArrayList<>(m.seen);
        events = new ArrayList<>(m.events);
        book = new ArrayList<>(m.book);
    }

    int image() {
        image = new Model();
        image.copyFrom(this);
        return 10 * a + b;
    }

    int undo() {
        if (image == null) {
            return STATE;
        }
        copyFrom(image);
        return 10 * a + b;
    }

    int count(int what) {
        int[] all = {seen.size(), events.size(), book.size(), text.length()};
        return in(what, 0, 3) ? all[what] : BAD;
    }

    int tape(int tape, int sort, int n) {
        if (!in(tape, 0, 5)) {
            return NONE;
        }
        if (sort == -1) {
            tapes[tape] = null;
            return 1;
        }
        if (!in(sort, 0, 4) || n > 60) {
            return BAD;
        }
        if (n < 0) {
            return SIZE;
        }
        tapes[tape] = java.lang.reflect.Array.newInstance(
            new Class<?>[] {byte.class, short.class, int.class, long.class, boolean.class}[sort], n);
        return 1;
    }

    private static int length(Object row) {
        return java.lang.reflect.Array.getLength(row);
    }

    int item(int tape, int i, long v) {
        if (!in(tape, 0, 5)) {
            return NONE;
        }
        Object row = tapes[tape];
        if (row == null) {
            return NOTHING;
        }
        if (!in(i, 0, length(row) - 1)) {
            return PLACE;
        }
        if (row instanceof byte[]) {
            ((byte[]) row)[i] = (byte) v;
        } else if (row instanceof short[]) {
            ((short[]) row)[i] = (short) v;
        } else if (row instanceof int[]) {
            ((int[]) row)[i] = (int) v;
        } else if (row instanceof long[]) {
            ((long[]) row)[i] = v;
        } else {
            ((boolean[]) row)[i] = v != 0;
        }
        return 1;
    }

    long peek(int tape, int i) {
        if (!in(tape, 0, 5) || tapes[tape] == null || !in(i, 0, length(tapes[tape]) - 1)) {
            return NO;
        }
        if (tapes[tape] instanceof boolean[]) {
            return ((boolean[]) tapes[tape])[i] ? 1 : 0;
        }
        return java.lang.reflect.Array.getLong(tapes[tape], i);
    }

    int shift(int tape, int i, int other, int j, int n) {
        if (!in(tape, 0, 5) || !in(other, 0, 5)) {
            return NONE;
        }
        if (tapes[tape] == null || tapes[other] == null) {
            return NOTHING;
        }
        if (tapes[tape].getClass() != tapes[other].getClass()) {
            return CAST;
        }
        try {
            System.arraycopy(tapes[tape], i, tapes[other], j, n);
        } catch (IndexOutOfBoundsException e) {
            return PLACE;
        }
        return n;
    }
}
