/**
 * Promises 14 to 16 for every PLACE and every table: SORT and STRING against the real roots as a chain of REFLECTIONS and
 * the sign of NORM, LOWERED against its words.
 */
public final class EveryPlaceTest {
    private static final int FAR = 999, STATE = -3;
    private static final Due due = new Due("EveryPlaceTest");
    private static int a;
    private static int b;
    /** By x and y; strings of what is asked for stay below 700. */
    private static final byte[][] sorts = new byte[FAR + 1][FAR + 1];
    private static EndlessRoots roots;
    private static int calls;

    public static void main(String[] args) {
        for (a = 1; a <= 6; a++) {
            for (b = 1; b <= 6; b++) {
                calls = Integer.MAX_VALUE;
                findSorts();
                everySort();
                everyString();
                everyLowered();
            }
        }
        due.close();
    }

    /** A new object every 500 calls: what one answers behind its 512th is free. */
    private static EndlessRoots next() {
        if (calls >= 500) {
            roots = new EndlessRoots();
            roots.table(a, b);
            calls = 1;
        }
        calls++;
        return roots;
    }

    private static void findSorts() {
        for (int x = 0; x <= FAR; x++) {
            for (int y = 0; y <= FAR; y++) {
                sorts[x][y] = (byte) (x + y > 0 && 2 * b * x * x - 2 * a * b * x * y + 2 * a * y * y <= 0 ? 2 : 0);
            }
        }
        chain(1, 0, 1);
        chain(0, 1, 0);
    }

    private static void chain(int x, int y, int i) {
        // A chain with an end turns below 0; one without leaves.
        while (x >= 0 && y >= 0 && x <= FAR && y <= FAR) {
            sorts[x][y] = 1;
            if (i == 0) {
                x = a * y - x;
            } else {
                y = b * x - y;
            }
            i = 1 - i;
        }
    }

    private static int sortOf(int x, int y) {
        return x >= 0 && y >= 0 ? sorts[x][y] : x <= 0 && y <= 0 ? sorts[-x][-y] : 0;
    }

    private static void wants(String call, int x, int y, int what, int got, int want) {
        if (got == want) {
            due.fine();
        } else {
            due.is("with table " + a + " " + b + " " + call + " of " + x + ", " + y + " (" + what + ")", got, want);
        }
    }

    private static void everySort() {
        for (int x = -FAR; x <= FAR; x++) {
            for (int y = -FAR; y <= FAR; y++) {
                wants("sort", x, y, 0, next().sort(x, y), sortOf(x, y));
            }
        }
    }

    private static void everyString() {
        for (int x = -99; x <= 99; x++) {
            for (int y = -99; y <= 99; y++) {
                for (int k = 0; k < 4; k++) {
                    wants("string", x, y, k, next().string(k / 2, x, y, k % 2), stringOf(k / 2, x, y, 2 * (k % 2) - 1));
                }
            }
        }
    }

    private static int stringOf(int i, int x, int y, int step) {
        if (sortOf(x, y) == 0 || (i == 0 ? y : x) == 0) {
            return STATE;
        }
        int many = -1;
        do {
            many++;
            x += i == 0 ? step : 0;
            y += i == 0 ? 0 : step;
        } while (sortOf(x, y) != 0);
        return many;
    }

    private static void everyLowered() {
        for (int x = 0; x <= FAR; x++) {
            for (int y = 0; y <= FAR; y++) {
                isLowered(x, y);
            }
        }
    }

    private static void isLowered(int x, int y) {
        int u = x;
        int v = y;
        int times = 0;
        while (u >= 0 && v >= 0 && (2 * u > a * v || 2 * v > b * u)) {
            if (2 * u > a * v) {
                u = a * v - u;
            } else {
                v = b * u - v;
            }
            times++;
        }
        wants("lowered", x, y, 0, next().lowered(x, y, 0), u + 1000);
        wants("lowered", x, y, 1, next().lowered(x, y, 1), v + 1000);
        wants("lowered", x, y, 2, next().lowered(x, y, 2), times);
    }
}
