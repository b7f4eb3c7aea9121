import java.lang.reflect.InvocationTargetException;
import java.lang.reflect.Method;
import java.util.ArrayList;
import java.util.Arrays;
import java.util.Comparator;
import java.util.List;
import java.util.function.Supplier;
import java.util.function.ToLongFunction;

/** What the tests of the boundary cases share: each of their methods that bears Says is a test of its own. */
abstract class Edges {
    static final int NONE = -1, BAD = -2, STATE = -3, FULL = -4;
    static final int NOTHING = -11, CAST = -12, PLACE = -13, SIZE = -14;
    static final int BYTES = 0, SHORTS = 1, INTS = 2, LONGS = 3, BOOLEANS = 4;
    static final long NO = Long.MIN_VALUE;
    static final int LEAST = Integer.MIN_VALUE, MOST = Integer.MAX_VALUE;
    private static Due due = new Due("Edges");
    private static String test = "";

    static List<Method> testsOf(Class<?> tests) {
        List<Method> found = new ArrayList<>(Arrays.asList(tests.getDeclaredMethods()));
        found.removeIf(m -> m.getAnnotation(Says.class) == null);
        found.sort(Comparator.comparingInt((Method m) -> m.getAnnotation(Says.class).promise())
            .thenComparing(Method::getName));
        return found;
    }

    static void run(Class<?> tests) throws IllegalAccessException {
        due = new Due(tests.getSimpleName());
        for (Method m : testsOf(tests)) {
            test = "promise " + m.getAnnotation(Says.class).promise() + ", " + m.getName() + ": ";
            int before = due.looked();
            try {
                m.setAccessible(true);
                m.invoke(null);
            } catch (InvocationTargetException e) {
                due.holds(test + "no call throws, but " + e.getCause(), false);
            }
            due.holds(test + "something is looked at", due.looked() > before);
        }
        due.close();
    }

    static void is(String call, long got, long want) {
        due.is(test + call, got, want);
    }

    static void isAt(EndlessRoots r, int x, int y) {
        is("x of AT", r.told(3), x + 1000);
        is("y of AT", r.told(4), y + 1000);
    }

    static void isTable(EndlessRoots r, int a, int b) {
        is("a", r.told(0), a);
        is("b", r.told(1), b);
    }

    static EndlessRoots with(int a, int b) {
        EndlessRoots r = new EndlessRoots();
        r.table(a, b);
        return r;
    }

    static void feed(EndlessRoots r, String text) {
        for (int k = 0; k < text.length(); k++) {
            r.feed(text.charAt(k));
        }
    }

    static int read(EndlessRoots r, String text) {
        feed(r, text);
        return r.read();
    }

    static void noteSome(EndlessRoots r, int many) {
        for (int k = 1; k <= many; k++) {
            r.place(k, 10 * k);
            r.note();
        }
    }

    /** The call answers so, and an object behind it goes on as one without it does. */
    static void refused(String call, Supplier<EndlessRoots> made, ToLongFunction<EndlessRoots> tried, long want) {
        EndlessRoots r = made.get();
        is(call, tried.applyAsLong(r), want);
        List<Long> behind = allOf(r);
        List<Long> without = allOf(made.get());
        int otherwise = 0;
        for (int k = 0; k < without.size(); k++) {
            otherwise += behind.get(k).equals(without.get(k)) ? 0 : 1;
        }
        is(call + " changes nothing: how many answers behind it are otherwise", otherwise, 0);
    }

    static void refused(String call, ToLongFunction<EndlessRoots> tried, long want) {
        refused(call, Edges::withSomeOfAll, tried, want);
    }

    /** Something of whatever an object holds, and an image that is otherwise. */
    static EndlessRoots withSomeOfAll() {
        EndlessRoots r = with(4, 1);
        noteSome(r, 2);
        r.see(2, 1, 2);
        r.event(1, 5);
        r.book(1, 1, 1);
        r.image();
        r.table(3, 2);
        r.place(5, -7);
        r.note();
        r.see(1, 1, 2);
        r.event(0, 1);
        r.event(2, 0);
        r.book(2, 2, 1);
        feed(r, "at 4 -4;note");
        for (int sort = BYTES; sort <= BOOLEANS; sort++) {
            r.tape(sort, sort, 4);
            r.item(sort, 1, -1);
            r.item(sort, 3, 1000000007L * (sort + 300));
        }
        return r;
    }

    /** Whatever can be found out of an object in less than the calls that it has; it is of no more use then. */
    static List<Long> allOf(EndlessRoots r) {
        List<Long> all = new ArrayList<>();
        tellSetting(all, r);
        tellTapes(all, r);
        for (int k = 0; k < 36; k++) {
            all.add((long) r.table(k / 6 + 1, k % 6 + 1));
            all.add((long) r.looked());
            all.add(r.after(2));
            all.add(k < 6 ? (long) r.fits() : 0);
        }
        all.add((long) r.read());
        tellSetting(all, r);
        all.add((long) r.undo());
        tellSetting(all, r);
        return all;
    }

    private static void tellSetting(List<Long> all, EndlessRoots r) {
        for (int what = 0; what <= 6; what++) {
            all.add((long) r.told(what));
        }
        for (int note = 0; note <= 8; note++) {
            all.add((long) r.noted(note, 0));
            all.add((long) r.noted(note, 1));
        }
        for (int what = 0; what <= 3; what++) {
            all.add((long) r.count(what));
        }
        all.add(r.after(1));
        all.add(r.after(2));
        all.add((long) r.looked());
        all.add((long) r.fits());
    }

    /** Of which sort a row is, is told by which of the six can be shifted to it. */
    private static void tellTapes(List<Long> all, EndlessRoots r) {
        for (int tape = 0; tape <= 5; tape++) {
            for (int i = 0; i <= 5; i++) {
                all.add(r.peek(tape, i));
                all.add((long) r.shift(i, 0, tape, 0, 0));
            }
            all.add((long) r.judge(tape, 0));
        }
    }
}
