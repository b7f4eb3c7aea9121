/** Promises 16 to 21 at their edges: STRINGS, COUNTED, C, LEVELS, MADE, SIGNED. */
public final class EdgesCountsTest extends Edges {
    /** Pairs that are beyond for all that goes by HEIGHT 12; some have a sum that wraps round to a HEIGHT. */
    private static final int[][] BEYOND_12 = {{13, 0}, {0, 13}, {12, 1}, {1, 12}, {7, 6}, {6, 7}, {12, 12}, {-1, 1}, {1, -1},
        {-1, 13}, {13, -1}, {-1, -1}, {MOST, MOST}, {LEAST, LEAST}, {MOST, LEAST}, {MOST, LEAST + 2}, {LEAST + 12, MOST},
        {MOST, 1}, {0, LEAST}};

    public static void main(String[] args) throws IllegalAccessException {
        run(EdgesCountsTest.class);
    }

    private static String pair(int[] n) {
        return "(" + n[0] + ", " + n[1] + ")";
    }

    /** OFF and ON. */
    private static void strings(EndlessRoots r, int i, int x, int y, int off, int on) {
        String of = " of " + i + " through " + x + ", " + y;
        is("off" + of, r.string(i, x, y, 0), off);
        is("on" + of, r.string(i, x, y, 1), on);
    }

    @Says(promise = 16, words = {"`int string(int i, int x, int y, int what)`: STRING of REFLECTION i through a ROOT: OFF "
        + "(what 0), ON (1).", "STRING of REFLECTION i through a ROOT: OFF: how often, one behind the other, 1 can be taken "
        + "from x (i 0) or y (i 1) so that it is a ROOT each time; ON: likewise, 1 being added.",
        "A ROOT: a PLACE that is REAL or OTHER;"})
    static void stringEndsAheadOfTheFirstThatIsNoRoot() {
        strings(with(1, 3), 1, 1, 0, 0, 3);
        strings(with(1, 3), 1, 1, 3, 3, 0);
        strings(with(1, 3), 1, 2, 3, 0, 0);
        strings(with(1, 3), 0, 1, 3, 0, 1);
        strings(with(2, 2), 0, 1, 1, 1, 1);
        strings(with(2, 2), 0, 0, 1, 0, 2);
        strings(with(2, 2), 0, 2, 1, 2, 0);
        strings(with(3, 3), 0, 1, 2, 0, 4);
        strings(with(6, 1), 1, 1, 0, 0, 1);
    }

    @Says(promise = 16, words = "STRING of REFLECTION i through a ROOT:")
    static void stringOfRootsBelow0() {
        strings(with(1, 3), 1, -1, 0, 3, 0);
        strings(with(1, 3), 1, -1, -3, 0, 3);
        strings(with(2, 2), 0, 0, -1, 2, 0);
        strings(with(2, 2), 1, -1, -1, 1, 1);
    }

    @Says(promise = 16, words = "BAD: x, y (-99 .. 99 each);")
    static void stringOfTheFarthestGoesBeyondThem() {
        strings(with(2, 2), 0, 99, 98, 2, 0);
        strings(with(2, 2), 0, 99, 99, 1, 1);
        strings(with(2, 2), 1, -99, -99, 1, 1);
        strings(with(2, 2), 1, 98, 99, 2, 0);
        // by 6 6 a PLACE is OTHER from 17, 99 to 577, 99
        strings(with(6, 6), 0, 99, 99, 82, 478);
        strings(with(6, 6), 1, -99, -99, 478, 82);
    }

    @Says(promise = 16, words = "BAD: x, y (-99 .. 99 each);")
    static void stringBeyond99IsBad() {
        int[][] bad = {{100, 99}, {-100, -99}, {99, 100}, {-99, -100}, {100, 100}, {1, LEAST}, {MOST, 1}};
        for (int[] n : bad) {
            refused("by 0 through " + pair(n), r -> r.string(0, n[0], n[1], 0), BAD);
            refused("by 1 through " + pair(n), r -> r.string(1, n[0], n[1], 1), BAD);
        }
    }

    @Says(promise = 16, words = "NONE: i, what;")
    static void stringOfNoReflectionOrNoSuchWhatIsNone() {
        int[] none = {-1, 2, LEAST, MOST};
        for (int n : none) {
            refused("i " + n, r -> r.string(n, 1, 1, 0), NONE);
            refused("what " + n, r -> r.string(0, 1, 1, n), NONE);
        }
    }

    @Says(promise = 16, words = "STATE: it is no ROOT, or one of which it isn't told.")
    static void stringOfNoRootIsState() {
        int[][] noRoots = {{0, 0}, {2, 0}, {0, 2}, {-2, 0}, {1, -1}, {-1, 1}, {99, -99}, {99, 0}};
        for (int[] n : noRoots) {
            refused("by 0 through " + pair(n), r -> r.string(0, n[0], n[1], 0), STATE);
            refused("by 1 through " + pair(n), r -> r.string(1, n[0], n[1], 1), STATE);
        }
        EndlessRoots r = with(1, 1);
        is("1, 1 by 1 1", r.string(0, 1, 1, 0), 1);
        is("2, 2 by 1 1", r.string(0, 2, 2, 0), STATE);
    }

    @Says(promise = 16, words = {"or one of which it isn't told.",
        "(Not of 1, 0 and -1, 0 by 0, nor of 0, 1 and 0, -1 by 1.)"})
    static void stringOfALetterByItselfIsState() {
        refused("1, 0 by 0", r -> r.string(0, 1, 0, 0), STATE);
        refused("1, 0 by 0", r -> r.string(0, 1, 0, 1), STATE);
        refused("-1, 0 by 0", r -> r.string(0, -1, 0, 0), STATE);
        refused("0, 1 by 1", r -> r.string(1, 0, 1, 0), STATE);
        refused("0, -1 by 1", r -> r.string(1, 0, -1, 1), STATE);
        strings(with(6, 5), 1, 1, 0, 0, 5);
        strings(with(6, 5), 1, -1, 0, 5, 0);
        strings(with(6, 5), 0, 0, 1, 0, 6);
        strings(with(6, 5), 0, 0, -1, 6, 0);
    }

    @Says(promise = 16, words = {"NONE: i, what; BAD: x, y (-99 .. 99 each); STATE: it is no ROOT,",
        "the first that a call's words name."})
    static void stringNamesNoneAheadOfBadAheadOfState() {
        refused("i and x wrong", r -> r.string(2, 100, 1, 0), NONE);
        refused("what and y wrong", r -> r.string(0, 1, -100, 2), NONE);
        refused("what wrong, no ROOT", r -> r.string(0, 1, -1, 2), NONE);
        refused("x wrong, no ROOT", r -> r.string(0, 100, -1, 0), BAD);
        refused("y wrong, no ROOT", r -> r.string(1, 0, 100, 0), BAD);
    }

    @Says(promise = 17, words = {"`int counted(int x, int y)`: COUNTED.",
        "COUNTED of a PLACE of HEIGHT 1 to 12, x and y not below 0: 0 of NONE, 1 of REAL;"})
    static void countedOfHeight1AndOfHeight12() {
        EndlessRoots r = with(3, 3);
        int[][] rows = {{1, 0, 1}, {0, 1, 1}, {12, 0, 0}, {0, 12, 0}, {11, 1, 0}, {1, 11, 0}, {6, 6, 39}, {5, 7, 27},
            {9, 3, 0}, {8, 3, 1}, {3, 8, 1}};
        for (int[] n : rows) {
            is("counted" + pair(n), r.counted(n[0], n[1]), n[2]);
        }
    }

    @Says(promise = 17, words = {"of OTHER: C of it, less, for each n of 2, 3, .. by which x and y can be divided, COUNTED of "
        + "x by n, y by n, by n.", "(All worked in fractions; COUNTED is always whole.)"})
    static void countedOfOtherLessItsParts() {
        EndlessRoots level = new EndlessRoots();
        for (int n = 1; n <= 6; n++) {
            is("2 2: " + n + ", " + n, level.counted(n, n), 1);
        }
        EndlessRoots r = with(4, 1);
        for (int n = 1; n <= 4; n++) {
            is("4 1: " + 2 * n + ", " + n, r.counted(2 * n, n), 1);
        }
        EndlessRoots wild = with(3, 3);
        int[] want = {1, 1, 3, 6, 16, 39};
        for (int n = 1; n <= 6; n++) {
            is("3 3: " + n + ", " + n, wild.counted(n, n), want[n - 1]);
        }
    }

    @Says(promise = 17, words = "`int counted(int x, int y)`: COUNTED.")
    static void countedGoesByTheTableThoughOnlyAOrBIsAnother() {
        EndlessRoots r = new EndlessRoots();
        int[][] rows = {{3, 3, 2}, {1, 3, 1}, {1, 1, 0}, {3, 1, 0}, {3, 3, 2}, {2, 3, 2}, {2, 2, 1}, {2, 1, 0}};
        for (int[] n : rows) {
            r.table(n[0], n[1]);
            is("counted(2, 3) by " + pair(n), r.counted(2, 3), n[2]);
        }
    }

    @Says(promise = 17, words = "BAD: x, y (0 .. 12 each, HEIGHT 1 to 12).")
    static void countedBeyondIsBad() {
        for (int[] n : BEYOND_12) {
            refused("counted" + pair(n), r -> r.counted(n[0], n[1]), BAD);
        }
        refused("HEIGHT 0", r -> r.counted(0, 0), BAD);
    }

    private static void fraction(EndlessRoots r, int x, int y, long above, long below) {
        is("c(" + x + ", " + y + ", 0)", r.c(x, y, 0), above);
        is("c(" + x + ", " + y + ", 1)", r.c(x, y, 1), below);
    }

    @Says(promise = 18, words = {"`long c(int x, int y, int part)`: C; part 0 above, 1 below the line, in lowest terms.",
        "C of a PLACE of HEIGHT 1 to 12, x and y not below 0: of REAL 1;"})
    static void cOfRealIs1() {
        fraction(with(2, 2), 1, 0, 1, 1);
        fraction(with(2, 2), 0, 1, 1, 1);
        fraction(with(2, 2), 6, 5, 1, 1);
        fraction(with(1, 3), 2, 3, 1, 1);
        fraction(with(3, 3), 8, 3, 1, 1);
    }

    @Says(promise = 18, words = "of NONE: COUNTED of x by n, y by n, by n, for each n of 2, 3, .. by which x and y can be "
        + "divided, together;")
    static void cOfNoneIsThatOfItsParts() {
        EndlessRoots r = with(2, 2);
        for (int n = 2; n <= 12; n++) {
            fraction(r, n, 0, 1, n);
            fraction(r, 0, n, 1, n);
        }
        fraction(r, 1, 3, 0, 1);
        fraction(r, 1, 11, 0, 1);
        fraction(r, 2, 4, 1, 2);
        fraction(r, 4, 8, 1, 4);
        fraction(r, 2, 6, 0, 1);
        fraction(with(1, 1), 6, 6, 1, 6);
    }

    @Says(promise = 18, words = {"of OTHER: for all twos of PLACES of HEIGHT 1 or more, x and y not below 0, that come to it "
        + "together (u, v and x - u, y - v, each order for itself): PRODUCT of the two times C of the one times C of the "
        + "other; all these together, by (NORM of it less 2 (b x and a y, together)).", "(All worked in fractions;"})
    static void cOfOtherIsTheSumOverAllTwos() {
        // by 2 2: twice -4, by -8
        fraction(with(2, 2), 1, 1, 1, 1);
        fraction(with(2, 2), 2, 2, 3, 2);
        fraction(with(2, 2), 6, 6, 2, 1);
        // by 4 1: twice -2 and twice -8 by 2, by -12
        fraction(with(4, 1), 2, 1, 1, 1);
        fraction(with(4, 1), 8, 4, 7, 4);
        fraction(with(3, 3), 2, 2, 3, 2);
        fraction(with(3, 3), 4, 4, 27, 4);
        fraction(with(3, 3), 3, 3, 10, 3);
    }

    @Says(promise = 18, words = "NO: x, y (likewise), part.")
    static void cBeyondIsNo() {
        for (int[] n : BEYOND_12) {
            refused("c" + pair(n), r -> r.c(n[0], n[1], 0), NO);
            refused("c" + pair(n), r -> r.c(n[0], n[1], 1), NO);
        }
        refused("HEIGHT 0", r -> r.c(0, 0, 1), NO);
    }

    @Says(promise = 18, words = "NO: x, y (likewise), part.")
    static void cOfNoSuchPartIsNo() {
        int[] none = {-1, 2, LEAST, MOST};
        for (int part : none) {
            refused("part " + part, r -> r.c(1, 1, part), NO);
        }
    }

    @Says(promise = 19, words = {"`int level(int h, int what)`: LEVEL h: how many (what 0), COUNTED of them, together (1).",
        "LEVEL h (1 .. 12): all POSITIVE ROOTS of HEIGHT h: how many; COUNTED of them, together.",
        "it is POSITIVE, if neither x nor y is below 0."})
    static void level1AndLevel12() {
        EndlessRoots r = with(3, 3);
        is("1, how many", r.level(1, 0), 2);
        is("1, counted", r.level(1, 1), 2);
        is("12, how many", r.level(12, 0), 5);
        is("12, counted", r.level(12, 1), 105);
        EndlessRoots wild = with(6, 6);
        is("12 of 6 6, how many: from 2, 10 to 10, 2", wild.level(12, 0), 9);
        is("12 of 6 6, counted", wild.level(12, 1), 303);
    }

    @Says(promise = 19, words = "LEVEL h (1 .. 12): all POSITIVE ROOTS of HEIGHT h: how many;")
    static void levelsOfATableWithAnEnd() {
        int[] want = {2, 1, 1, 1, 1, 0, 0, 0, 0, 0, 0, 0};
        EndlessRoots r = with(1, 3);
        for (int h = 1; h <= 12; h++) {
            is("level(" + h + ", 0)", r.level(h, 0), want[h - 1]);
            is("level(" + h + ", 1)", r.level(h, 1), want[h - 1]);
        }
    }

    @Says(promise = 19, words = "BAD: h;")
    static void levelBelow1OrAbove12IsBad() {
        int[] bad = {0, 13, -1, LEAST, MOST};
        for (int h : bad) {
            refused("level(" + h + ", 0)", r -> r.level(h, 0), BAD);
            refused("level(" + h + ", 1)", r -> r.level(h, 1), BAD);
        }
    }

    @Says(promise = 19, words = "NONE: what.")
    static void levelOfNoSuchWhatIsNone() {
        int[] none = {-1, 2, LEAST, MOST};
        for (int what : none) {
            refused("what " + what, r -> r.level(1, what), NONE);
            refused("what " + what, r -> r.level(12, what), NONE);
        }
    }

    @Says(promise = 19, words = {"BAD: h; NONE: what.", "the first that a call's words name."})
    static void levelNamesBadAheadOfNone() {
        refused("both wrong", r -> r.level(0, 2), BAD);
        refused("both wrong", r -> r.level(13, -1), BAD);
    }

    @Says(promise = 20, words = {"`long made(int x, int y)`: MADE.",
        "MADE of a PLACE of HEIGHT 0 to 12, x and y not below 0: the coefficient at it (letters s, t: s to the power of x, t "
        + "to that of y) in the product, over all POSITIVE ROOTS u, v of HEIGHT 12 or less, of (1 less s to the u t to the v) "
        + "to the power of COUNTED."})
    static void madeOfHeight0To12() {
        int[][] all = {{0, 0, 1}, {1, 0, -1}, {0, 1, -1}, {12, 0, 0}, {0, 12, 0}, {6, 6, 0}, {2, 0, 0}};
        for (int[] n : all) {
            is("by 2 2, made" + pair(n), with(2, 2).made(n[0], n[1]), n[2]);
            is("by 6 6, made" + pair(n), with(6, 6).made(n[0], n[1]), n[2]);
        }
        is("by 2 3, HEIGHT 12", with(2, 3).made(8, 4), -1);
        is("by 3 2, HEIGHT 12", with(3, 2).made(9, 3), -1);
        is("by 1 5, HEIGHT 12", with(1, 5).made(6, 6), -1);
        is("by 5 1, HEIGHT 12", with(5, 1).made(6, 6), -1);
        is("by 1 2, all of it", with(1, 2).made(3, 4), 1);
        is("by 1 1, all of it", with(1, 1).made(2, 2), -1);
    }

    @Says(promise = 20, words = "`long made(int x, int y)`: MADE.")
    static void madeGoesByTheTableThoughOnlyAOrBIsAnother() {
        // by a and b it is 1 at 1, b + 1 and at a + 1, 1, and 0 elsewhere on these lines but for the first two
        EndlessRoots r = new EndlessRoots();
        int[][] tables = {{3, 3}, {5, 3}, {5, 6}, {3, 6}, {3, 3}, {4, 2}};
        for (int[] n : tables) {
            r.table(n[0], n[1]);
            for (int k = 2; k <= 8; k++) {
                is("made(1, " + k + ") by " + pair(n), r.made(1, k), k == n[1] + 1 ? 1 : 0);
                is("made(" + k + ", 1) by " + pair(n), r.made(k, 1), k == n[0] + 1 ? 1 : 0);
            }
        }
    }

    @Says(promise = 20, words = "NO: x, y (0 .. 12 each, HEIGHT 0 to 12).")
    static void madeBeyondIsNo() {
        for (int[] n : BEYOND_12) {
            refused("made" + pair(n), r -> r.made(n[0], n[1]), NO);
        }
    }

    @Says(promise = 21, words = {"`int signed(int x, int y)`: SIGNED, and 1.", "SIGNED of it: begin at 0, 0; a WORD, from the "
        + "left on, carries p, q to: by 0: a q less p, and 1; q; by 1: p; b p less q, and 1."})
    static void signedOfTheFirstWords() {
        // by 2 3: 0 to 1, 0; 1 to 1, 4; 0 to 8, 4; and 1 to 0, 1; 0 to 3, 1; 1 to 3, 9
        EndlessRoots r = with(2, 3);
        int[][] rows = {{1, 0, 0}, {1, 4, 2}, {8, 4, 0}, {0, 1, 0}, {3, 1, 2}, {3, 9, 0}};
        for (int[] n : rows) {
            is("signed" + pair(n), r.signed(n[0], n[1]), n[2]);
        }
    }

    @Says(promise = 21, words = "If a WORD of k signs (0 .. 24 of them, no two alike right behind one another) comes to it, it "
        + "is 1 for an even k, -1 for an odd one (k of the shortest such);")
    static void signedOfNoSignsAndOfAllWordsOfATableWithAnEnd() {
        is("no signs, 1 1", with(1, 1).signed(0, 0), 2);
        is("no signs, 6 6", with(6, 6).signed(0, 0), 2);
        int[][] of11 = {{1, 0, 0}, {0, 1, 0}, {1, 2, 2}, {2, 1, 2}, {2, 2, 0}};
        for (int[] n : of11) {
            is("by 1 1, signed" + pair(n), with(1, 1).signed(n[0], n[1]), n[2]);
        }
        int[][] of12 = {{1, 3, 2}, {3, 3, 0}, {3, 4, 2}, {2, 1, 2}, {2, 4, 0}};
        for (int[] n : of12) {
            is("by 1 2, signed" + pair(n), with(1, 2).signed(n[0], n[1]), n[2]);
        }
    }

    @Says(promise = 21, words = "if none does, 0.")
    static void signedWithoutAWordIs0() {
        is("1, 1 by 2 2", with(2, 2).signed(1, 1), 1);
        is("12, 0 by 6 6", with(6, 6).signed(12, 0), 1);
        is("0, 12 by 6 6", with(6, 6).signed(0, 12), 1);
        is("2, 0 by 1 1: no two alike", with(1, 1).signed(2, 0), 1);
        is("6, 6 by 6 6", with(6, 6).signed(6, 6), 1);
    }

    @Says(promise = 21, words = "BAD: x, y (likewise).")
    static void signedBeyondIsBad() {
        for (int[] n : BEYOND_12) {
            refused("signed" + pair(n), r -> r.signed(n[0], n[1]), BAD);
        }
    }

    @Says(promise = 21, words = {"==== 2 All that follows is asked, and changes nothing.", "what is asked changes nothing."})
    static void whatIsAskedOfCountsChangesNothing() {
        refused("string", r -> r.string(0, 1, 1, 1), 2);
        refused("counted", r -> r.counted(1, 1), 1);
        refused("c", r -> r.c(2, 0, 1), 2);
        refused("level", r -> r.level(1, 0), 2);
        refused("made", r -> r.made(1, 3), 1);
        refused("signed", r -> r.signed(1, 3), 2);
    }
}
