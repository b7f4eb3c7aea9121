/** Promises 9 to 15 at their edges: what is told of AT, NOTES and PLACES, and how these are LOWERED. */
public final class EdgesToldTest extends Edges {
    private static final int[][] BEYOND = {{1000, 0}, {-1000, 0}, {0, 1000}, {0, -1000}, {1000, -1000}, {LEAST, 0},
        {0, LEAST}, {MOST, 0}, {0, MOST}, {LEAST, LEAST}, {65536, 65536}};

    public static void main(String[] args) throws IllegalAccessException {
        run(EdgesToldTest.class);
    }

    private static String pair(int[] n) {
        return "(" + n[0] + ", " + n[1] + ")";
    }

    @Says(promise = 9, words = {"`int told(int what)`: 0 a, 1 b, 2 KIND, 3 x of AT, and 1000, 4 y of AT, and 1000, "
        + "5 SORT of AT, 6 how many NOTES."})
    static void toldOfAll() {
        EndlessRoots r = with(3, 4);
        r.place(2, 3);
        r.note();
        int[] want = {3, 4, 2, 1002, 1003, 2, 1};
        for (int what = 0; what <= 6; what++) {
            is("told(" + what + ")", r.told(what), want[what]);
        }
    }

    @Says(promise = 9, words = "KIND by a times b: 0 ENDING (below 4), 1 LEVEL (4), 2 WILD (above 4).")
    static void toldKindBelow4At4AndAbove4() {
        int[][] rows = {{1, 1, 0}, {1, 2, 0}, {2, 1, 0}, {1, 3, 0}, {3, 1, 0}, {1, 4, 1}, {2, 2, 1}, {4, 1, 1}, {1, 5, 2},
            {5, 1, 2}, {2, 3, 2}, {3, 2, 2}, {1, 6, 2}, {6, 6, 2}};
        for (int[] n : rows) {
            is("kind of " + pair(n), with(n[0], n[1]).told(2), n[2]);
        }
    }

    @Says(promise = 9, words = "3 x of AT, and 1000, 4 y of AT, and 1000")
    static void toldOfTheFarthest() {
        EndlessRoots r = new EndlessRoots();
        r.place(-999, 999);
        is("x", r.told(3), 1);
        is("y", r.told(4), 1999);
        r.place(999, -999);
        is("x", r.told(3), 1999);
        is("y", r.told(4), 1);
    }

    @Says(promise = 9, words = "6 how many NOTES.")
    static void toldOfNoNotesAndOfEight() {
        EndlessRoots r = new EndlessRoots();
        is("none", r.told(6), 0);
        noteSome(r, 8);
        is("eight", r.told(6), 8);
    }

    @Says(promise = 9, words = "NONE.")
    static void toldOfNoSuchNumberIsNone() {
        refused("below", r -> r.told(-1), NONE);
        refused("above", r -> r.told(7), NONE);
        refused("least", r -> r.told(LEAST), NONE);
        refused("most", r -> r.told(MOST), NONE);
    }

    @Says(promise = 9, words = {"what is asked changes nothing.", "==== 2 All that follows is asked, and changes nothing."})
    static void whatIsToldChangesNothing() {
        int[] want = {3, 2, 2, 1005, 993, 0, 3};
        for (int k = 0; k <= 6; k++) {
            int what = k;
            refused("told(" + k + ")", r -> r.told(what), want[k]);
        }
        refused("noted(1, 0)", r -> r.noted(1, 0), 1002);
        refused("norm(1, 1)", r -> r.norm(1, 1), 4 - 12 + 6);
        refused("product(1, 0, 0, 1)", r -> r.product(1, 0, 0, 1), -6);
        refused("coat(0, 1, 1)", r -> r.coat(0, 1, 1), 9999);
        refused("sort(1, 1)", r -> r.sort(1, 1), 2);
        refused("lowered(1, 3, 2)", r -> r.lowered(1, 3, 2), 1);
    }

    @Says(promise = 10, words = "`int noted(int note, int what)`: Of a NOTE x (what 0), y (1), each and 1000,")
    static void notedOfTheFirstAndTheLast() {
        EndlessRoots r = new EndlessRoots();
        int[][] places = {{-999, 999}, {2, 2}, {3, 3}, {4, 4}, {5, 5}, {6, 6}, {7, 7}, {999, -999}};
        for (int[] n : places) {
            r.place(n[0], n[1]);
            r.note();
        }
        is("the first, x", r.noted(0, 0), 1);
        is("the first, y", r.noted(0, 1), 1999);
        is("the last, x", r.noted(7, 0), 1999);
        is("the last, y", r.noted(7, 1), 1);
    }

    @Says(promise = 10, words = "its SORT by a and b as they are now (2).")
    static void notedSortIsByTheTableAsItIsNow() {
        EndlessRoots r = with(1, 1);
        r.place(1, 1);
        r.note();
        is("by 1 1", r.noted(0, 2), 1);
        r.table(2, 2);
        is("by 2 2", r.noted(0, 2), 2);
        r.place(0, 2);
        r.note();
        is("the second", r.noted(1, 2), 0);
    }

    @Says(promise = 10, words = "NONE: note, what.")
    static void notedOfNoSuchNoteIsNone() {
        refused("behind the last", r -> r.noted(3, 0), NONE);
        refused("below", r -> r.noted(-1, 0), NONE);
        refused("least", r -> r.noted(LEAST, 1), NONE);
        refused("most", r -> r.noted(MOST, 2), NONE);
        EndlessRoots none = new EndlessRoots();
        is("there are none", none.noted(0, 0), NONE);
        noteSome(none, 8);
        is("the ninth", none.noted(8, 0), NONE);
        none.wipe();
        is("wiped", none.noted(0, 0), NONE);
    }

    @Says(promise = 10, words = "NONE: note, what.")
    static void notedOfNoSuchWhatIsNone() {
        refused("below", r -> r.noted(0, -1), NONE);
        refused("above", r -> r.noted(0, 3), NONE);
        refused("least", r -> r.noted(0, LEAST), NONE);
        refused("most", r -> r.noted(0, MOST), NONE);
    }

    @Says(promise = 11, words = {"`long norm(int x, int y)`: NORM.",
        "NORM of a PLACE: 2 b x x, less 2 a b x y, and 2 a y y."})
    static void normOfTheFarthest() {
        EndlessRoots r = with(6, 5);
        is("x alone", r.norm(-999, 0), 10 * 998001L);
        is("y alone", r.norm(0, 999), 12 * 998001L);
        is("most", r.norm(999, -999), (10 + 60 + 12) * 998001L);
        is("least", r.norm(-999, -999), (10 - 60 + 12) * 998001L);
        is("0", r.norm(0, 0), 0);
    }

    @Says(promise = 11, words = "NO: no PLACE.")
    static void normOfNoPlaceIsNo() {
        for (int[] n : BEYOND) {
            refused("norm" + pair(n), r -> r.norm(n[0], n[1]), NO);
        }
    }

    @Says(promise = 12, words = {"`long product(int x, int y, int u, int v)`: PRODUCT.",
        "PRODUCT of two PLACES x, y and u, v: 2 b x u, less a b (x v and y u, together), and 2 a y v."})
    static void productOfTheFarthest() {
        EndlessRoots r = with(6, 5);
        is("x, u", r.product(999, 0, -999, 0), -10 * 998001L);
        is("x, v", r.product(999, 0, 0, 999), -30 * 998001L);
        is("y, u", r.product(0, -999, 999, 0), 30 * 998001L);
        is("y, v", r.product(0, 999, 0, 999), 12 * 998001L);
        is("most", r.product(999, -999, 999, -999), 82 * 998001L);
        is("least", r.product(999, -999, -999, 999), -82 * 998001L);
        is("0", r.product(0, 0, 999, 999), 0);
    }

    @Says(promise = 12, words = "NO: either is no PLACE.")
    static void productOfNoPlaceIsNo() {
        for (int[] n : BEYOND) {
            refused("product with the first " + pair(n), r -> r.product(n[0], n[1], 1, 1), NO);
            refused("product with the second " + pair(n), r -> r.product(1, 1, n[0], n[1]), NO);
        }
        refused("both", r -> r.product(1000, 0, 0, 1000), NO);
    }

    @Says(promise = 13, words = {"`int coat(int i, int x, int y)`: COAT i, and 10000.",
        "COAT i of a PLACE: of 0: 2 x less a y; of 1: 2 y less b x."})
    static void coatOfTheFarthest() {
        EndlessRoots r = with(6, 5);
        is("0, most", r.coat(0, 999, -999), 10000 + 8 * 999);
        is("0, least", r.coat(0, -999, 999), 10000 - 8 * 999);
        is("1, most", r.coat(1, -999, 999), 10000 + 7 * 999);
        is("1, least", r.coat(1, 999, -999), 10000 - 7 * 999);
        is("0 of 0, 0", r.coat(0, 0, 0), 10000);
        is("1 of 0, 0", r.coat(1, 0, 0), 10000);
    }

    @Says(promise = 13, words = "NONE: i;")
    static void coatOfNoReflectionIsNone() {
        refused("below", r -> r.coat(-1, 1, 1), NONE);
        refused("above", r -> r.coat(2, 1, 1), NONE);
        refused("least", r -> r.coat(LEAST, 1, 1), NONE);
        refused("most", r -> r.coat(MOST, 1, 1), NONE);
    }

    @Says(promise = 13, words = "BAD: no PLACE.")
    static void coatOfNoPlaceIsBad() {
        for (int[] n : BEYOND) {
            refused("coat 0 of " + pair(n), r -> r.coat(0, n[0], n[1]), BAD);
            refused("coat 1 of " + pair(n), r -> r.coat(1, n[0], n[1]), BAD);
        }
    }

    @Says(promise = 13, words = {"NONE: i; BAD: no PLACE.", "the first that a call's words name."})
    static void coatNamesNoneAheadOfBad() {
        refused("both wrong", r -> r.coat(2, 1000, 0), NONE);
        refused("both wrong", r -> r.coat(-1, 0, -1000), NONE);
    }

    @Says(promise = 14, words = {"`int sort(int x, int y)`: SORT of a PLACE.",
        "SORT of a PLACE: 0 NONE, if one of x and y is above 0 and one below;"})
    static void sortOfMixedSignsIsNone() {
        int[][] rows = {{1, -1}, {-1, 1}, {999, -1}, {-1, 999}, {1, -999}, {-999, 999}};
        for (int[] n : rows) {
            is("by 2 2, sort" + pair(n), with(2, 2).sort(n[0], n[1]), 0);
            is("by 6 6, sort" + pair(n), with(6, 6).sort(n[0], n[1]), 0);
            is("by 1 1, sort" + pair(n), with(1, 1).sort(n[0], n[1]), 0);
        }
    }

    @Says(promise = 14, words = "if neither is above 0, that of -x, -y;")
    static void sortBelow0IsThatOfTheOpposite() {
        int[][] rows = {{-1, 0, 1}, {0, -1, 1}, {-2, 0, 0}, {0, -999, 0}, {-1, -1, 2}, {-999, -999, 2}, {-999, -998, 1},
            {-997, -999, 0}};
        for (int[] n : rows) {
            is("sort" + pair(n), new EndlessRoots().sort(n[0], n[1]), n[2]);
        }
    }

    @Says(promise = 14, words = "else 1 REAL, if, as it is LOWERED, it once is 1, 0 or 0, 1 (from the PLACE itself on);")
    static void sortRealFromThePlaceItselfOn() {
        EndlessRoots r = with(3, 1);
        int[][] rows = {{1, 0, 1}, {0, 1, 1}, {1, 1, 1}, {2, 1, 1}, {3, 1, 1}, {3, 2, 1}, {2, 0, 0}, {0, 2, 0}, {4, 1, 0},
            {2, 2, 0}, {1, 2, 0}, {3, 3, 0}};
        for (int[] n : rows) {
            is("sort" + pair(n), r.sort(n[0], n[1]), n[2]);
        }
        is("behind 999 REFLECTIONS", new EndlessRoots().sort(999, 998), 1);
    }

    @Says(promise = 14, words = "else 2 OTHER, if both x and y of what it is LOWERED to are above 0; else 0 NONE (so is 0, 0).")
    static void sortOtherOnlyIfBothStayAbove0() {
        EndlessRoots r = with(4, 1);
        int[][] rows = {{2, 1, 2}, {4, 2, 2}, {1, 1, 1}, {3, 1, 1}, {4, 1, 1}, {5, 1, 0}, {2, 2, 0}, {6, 3, 2}, {3, 2, 1},
            {4, 3, 1}, {4, 4, 0}, {998, 499, 2}};
        for (int[] n : rows) {
            is("sort" + pair(n), r.sort(n[0], n[1]), n[2]);
        }
        is("0, 0", r.sort(0, 0), 0);
        is("0, 0 by 1 1", with(1, 1).sort(0, 0), 0);
        is("to x 0, as 2, 2 by 1 1", with(1, 1).sort(2, 2), 0);
    }

    @Says(promise = 14, words = "BAD: it is none.")
    static void sortOfNoPlaceIsBad() {
        for (int[] n : BEYOND) {
            refused("sort" + pair(n), r -> r.sort(n[0], n[1]), BAD);
        }
    }

    private static void lowers(EndlessRoots r, int x, int y, int toX, int toY, int times) {
        String of = "of " + x + ", " + y;
        is("x " + of, r.lowered(x, y, 0), toX + 1000);
        is("y " + of, r.lowered(x, y, 1), toY + 1000);
        is("times " + of, r.lowered(x, y, 2), times);
    }

    @Says(promise = 15, words = {"`int lowered(int x, int y, int what)`: What a PLACE is LOWERED to: x (what 0), y (1), each "
        + "and 1000; how many times it was carried (2).",
        "LOWERED: a PLACE of which x and y aren't below 0 is carried by a REFLECTION i whose COAT is above 0"})
    static void loweredIsCarriedOnlyByACoatAbove0() {
        lowers(with(2, 2), 1, 1, 1, 1, 0);
        lowers(with(2, 2), 999, 999, 999, 999, 0);
        lowers(with(3, 3), 2, 3, 2, 3, 0);
        lowers(with(4, 1), 2, 1, 2, 1, 0);
        lowers(with(2, 2), 0, 0, 0, 0, 0);
        lowers(with(3, 3), 1, 2, 1, 1, 1);
        lowers(with(3, 3), 2, 1, 1, 1, 1);
    }

    @Says(promise = 15, words = "(by 0, if both are), and so on,")
    static void loweredBy0IfBothCoatsAreAbove0() {
        lowers(with(1, 1), 1, 1, 0, -1, 2);
        lowers(with(1, 1), 5, 4, -1, 4, 1);
        lowers(with(1, 3), 1, 1, 0, -1, 2);
        lowers(with(1, 1), 999, 999, 0, -999, 2);
    }

    @Says(promise = 15, words = "as long as there is one, and neither x nor y is below 0. (It always ends.)")
    static void loweredEndsAsSoonAsOneIsBelow0() {
        lowers(with(6, 6), 1, 0, -1, 0, 1);
        lowers(with(6, 6), 0, 1, 0, -1, 1);
        lowers(with(2, 2), 999, 0, -999, 0, 1);
        lowers(with(2, 2), 0, 999, 0, -999, 1);
        lowers(with(2, 2), 2, 0, -2, 0, 1);
        lowers(with(2, 2), 500, 499, 0, -1, 500);
        lowers(with(2, 2), 499, 500, -1, 0, 500);
        lowers(with(2, 2), 999, 998, -1, 0, 999);
        lowers(with(2, 2), 998, 999, 0, -1, 999);
    }

    @Says(promise = 15, words = "BAD: x, y (0 .. 999 each);")
    static void loweredBelow0OrBeyondIsBad() {
        for (int[] n : BEYOND) {
            refused("lowered" + pair(n), r -> r.lowered(n[0], n[1], 0), BAD);
        }
        refused("x -1", r -> r.lowered(-1, 0, 0), BAD);
        refused("y -1", r -> r.lowered(0, -1, 2), BAD);
        refused("both", r -> r.lowered(-999, -999, 1), BAD);
    }

    @Says(promise = 15, words = "NONE: what.")
    static void loweredOfNoSuchWhatIsNone() {
        refused("below", r -> r.lowered(1, 1, -1), NONE);
        refused("above", r -> r.lowered(1, 1, 3), NONE);
        refused("least", r -> r.lowered(0, 0, LEAST), NONE);
        refused("most", r -> r.lowered(999, 999, MOST), NONE);
    }

    @Says(promise = 15, words = {"BAD: x, y (0 .. 999 each); NONE: what.", "the first that a call's words name."})
    static void loweredNamesBadAheadOfNone() {
        refused("both wrong", r -> r.lowered(-1, 0, 3), BAD);
        refused("both wrong", r -> r.lowered(0, 1000, -1), BAD);
    }
}
