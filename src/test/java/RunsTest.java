import java.lang.reflect.InvocationTargetException;
import java.lang.reflect.Method;
import java.util.ArrayList;
import java.util.List;

/** Long runs of all calls mixed, edges and wrong numbers among them, each answer against the model's. */
public final class RunsTest {
    private static final int RUNS = 2000;
    private static final int CALLS = 512;
    private static final int[] EDGES = {
        -1000, -999, -101, -100, -99, -13, -12, -3, -2, -1, 0, 1, 2, 3, 4, 5, 6, 7, 8, 11, 12, 13, 59, 60, 61, 99, 100,
        101, 127, 128, 998, 999, 1000, Integer.MIN_VALUE, Integer.MIN_VALUE + 1, Integer.MAX_VALUE,
        Integer.MAX_VALUE - 1,
    };
    /** Each call with the least and the most of every number that is as told; calls that come more often stand twice. */
    private static final String[] ROWS = {
        "table 1..6 1..6", "place -999..999 -999..999", "place -3..12 -3..12", "carry 0..1", "carry 0..1", "note",
        "note", "wipe", "feed 0..127", "read", "told 0..6", "noted 0..7 0..2", "norm -999..999 -999..999",
        "product -999..999 -999..999 -999..999 -999..999", "coat 0..1 -999..999 -999..999", "sort -999..999 -999..999",
        "sort -12..40 -12..40", "lowered 0..999 0..999 0..2", "lowered 0..12 0..12 0..2", "string 0..1 -99..99 -99..99 0..1",
        "string 0..1 -6..6 -6..6 0..1", "counted 0..8 0..8", "c 0..8 0..8 0..1", "level 1..12 0..1", "made 0..8 0..8",
        "signed 0..8 0..8", "see -12..12 -12..12 0..2", "see 0..3 0..3 0..2", "see -100..-100 0..0 0..0", "fits", "fits",
        "odds 1..12 0..1", "mean 1..12 0..1", "event 0..2 0..1", "event 0..2 0..6", "event -1..-1 0..0", "after 0..2",
        "after 0..2", "book 0..8 0..8 0..3", "book -1..-1 0..0 0..0", "looked", "looked", "judge 0..5 -1..3", "image",
        "undo", "count 0..3", "tape 0..5 -1..4 0..60", "tape 0..5 2..3 5..20", "item 0..5 0..10 0..3",
        "item 0..5 0..60 -200..70000", "peek 0..5 0..10", "peek 0..5 0..60", "shift 0..5 0..20 0..5 0..20 0..20",
        "shift 0..5 0..3 0..5 0..3 0..4",
    };
    private static final String[] CLAUSES = {
        "table 2 3", "table 6 6", "at 1 0", "at 12 -7", "at -0 007", "at -999 999", "word 0", "word 10", "note", "wipe",
        "word 01010101010101010101", "table 1 1", "table 1 3", "word 101010",
    };
    private static final String[] OTHERS = {
        "table 7 1", "table 1 0", "word 010101010101010101011", "word 2", "wope", "noto", "tabel 1 1", "at 1 2345",
        "at --1 2", "at  1 2", "table 12 1", "table -1 2", "word", "a", "", "note ", " note",
    };
    private static final Due due = new Due("RunsTest");
    private static long seed = 20261117L;
    private static final List<String> history = new ArrayList<>();

    public static void main(String[] args) throws ReflectiveOperationException {
        for (int run = 0; run < RUNS && due.wrong() == 0; run++) {
            EndlessRoots roots = new EndlessRoots();
            Model model = new Model();
            history.clear();
            while (history.size() < CALLS && due.wrong() == 0) {
                if (below(60) == 0) {
                    text(roots, model);
                } else if (below(60) == 0) {
                    rightRow(roots, model);
                } else {
                    call(roots, model, ROWS[below(ROWS.length)]);
                }
            }
        }
        if (due.wrong() > 0) {
            System.out.println(String.join("; ", history));
        }
        due.close();
    }

    private static int below(int n) {
        seed = seed * 6364136223846793005L + 1442695040888963407L;
        return (int) ((seed >>> 33) % n);
    }

    /** Mostly a number that is as told, at times an edge. */
    private static int pick(String range) {
        if (below(14) == 0) {
            return EDGES[below(EDGES.length)];
        }
        int dots = range.indexOf("..");
        int least = Integer.parseInt(range.substring(0, dots));
        int most = Integer.parseInt(range.substring(dots + 2));
        return least + below(most - least + 1);
    }

    private static void call(EndlessRoots roots, Model model, String row) throws ReflectiveOperationException {
        String[] parts = row.split(" ");
        Object[] numbers = new Object[parts.length - 1];
        for (int k = 0; k < numbers.length; k++) {
            numbers[k] = pick(parts[k + 1]);
        }
        if (parts[0].equals("item")) {
            long v = (Integer) numbers[2];
            numbers[2] = below(4) == 0 ? v << below(64) : v;
        }
        invoke(roots, model, parts[0], numbers);
    }

    private static void invoke(EndlessRoots roots, Model model, String name, Object... numbers)
        throws ReflectiveOperationException {
        if (history.size() >= CALLS) {
            return;
        }
        StringBuilder told = new StringBuilder(name);
        Class<?>[] types = new Class<?>[numbers.length];
        for (int k = 0; k < numbers.length; k++) {
            told.append(k == 0 ? "(" : ", ").append(numbers[k]);
            types[k] = numbers[k] instanceof Long ? long.class : int.class;
        }
        history.add(told.toString());
        long want = answer(model, model.getClass().getDeclaredMethod(name, types), numbers);
        long got = answer(roots, EndlessRoots.class.getMethod(name, types), numbers);
        due.is(told.toString(), got, want);
    }

    private static long answer(Object on, Method method, Object[] numbers) throws ReflectiveOperationException {
        try {
            return ((Number) method.invoke(on, numbers)).longValue();
        } catch (InvocationTargetException e) {
            System.out.println(String.join("; ", history));
            throw e;
        }
    }

    private static void text(EndlessRoots roots, Model model) throws ReflectiveOperationException {
        StringBuilder text = new StringBuilder();
        boolean many = below(4) == 0;
        int pieces = many ? 10 + below(5) : 1 + below(5);
        for (int k = 0; k < pieces; k++) {
            String[] from = below(20) == 0 ? OTHERS : CLAUSES;
            text.append(k == 0 ? "" : ";").append(many && below(8) > 0 ? CLAUSES[6 + below(4)] : from[below(from.length)]);
        }
        if (text.length() > 0 && below(4) == 0) {
            text.setCharAt(below(text.length()), (char) below(128));
        }
        if (below(4) == 0) {
            text.setLength(below(text.length() + 1));
        }
        if (below(8) > 0) {
            invoke(roots, model, "read");
        }
        for (int k = 0; k < text.length(); k++) {
            invoke(roots, model, "feed", (int) text.charAt(k));
        }
        invoke(roots, model, "count", 3);
        invoke(roots, model, "read");
        for (int what = 0; what <= 6; what++) {
            invoke(roots, model, "told", what);
        }
    }

    /** A row of what is due of the LEVELS, at times cut off or wrong in one. */
    private static void rightRow(EndlessRoots roots, Model model) throws ReflectiveOperationException {
        int tape = below(6);
        int from = below(5);
        invoke(roots, model, "tape", tape, 2, from + 12 - (below(3) == 0 ? below(8) : 0));
        int wrong = 1 + below(30);
        for (int h = 1; h <= 12; h++) {
            invoke(roots, model, "item", tape, from + h - 1, model.level(h, 1) + (h == wrong ? 1L : 0L));
        }
        invoke(roots, model, "judge", tape, from);
    }
}
