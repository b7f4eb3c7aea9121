/** Promises 22 to 29 at their edges: SEEN, FITS, ODDS, MEAN, EVENTS, AFTER, the BOOK. */
public final class EdgesSeenTest extends Edges {
    public static void main(String[] args) throws IllegalAccessException {
        run(EdgesSeenTest.class);
    }

    private static EndlessRoots withSeen(int rows) {
        EndlessRoots r = withSomeOfAll();
        r.see(-100, 0, 0);
        for (int k = 1; k <= rows; k++) {
            r.see(1, 1, 2);
        }
        return r;
    }

    @Says(promise = 22, words = {"`int see(int x, int y, int sort)`: What is SEEN comes: how many there are",
        "SEEN told by hand: a PLACE (-12 .. 12 each), its SORT (4 rows at most)."})
    static void seeTakesFourRowsOfTheFarthest() {
        EndlessRoots r = new EndlessRoots();
        is("1", r.see(-12, -12, 0), 1);
        is("2", r.see(12, 12, 2), 2);
        is("3", r.see(-12, 12, 1), 3);
        is("4, one that is there", r.see(-12, 12, 1), 4);
        is("how many", r.count(0), 4);
    }

    @Says(promise = 22, words = "(x -100: none then, 0, whatever the rest is).")
    static void seeMinus100LeavesNone() {
        EndlessRoots r = withSeen(4);
        is("of four", r.see(-100, LEAST, MOST), 0);
        is("how many", r.count(0), 0);
        is("all fit", r.fits(), 63);
        is("of none", r.see(-100, 13, 3), 0);
        is("from the first on", r.see(0, 0, 0), 1);
        is("of one", r.see(-100, 1, 1), 0);
        refused("of none changes nothing", () -> withSeen(0), other -> other.see(-100, -100, -1), 0);
    }

    @Says(promise = 22, words = "BAD: x, y (-12 .. 12 each), sort (0 .. 2);")
    static void seeBeyond12IsBad() {
        int[] bad = {13, -13, -99, -101, 100, LEAST, MOST};
        for (int n : bad) {
            refused("x " + n, r -> r.see(n, 0, 0), BAD);
            refused("y " + n, r -> r.see(0, n, 0), BAD);
        }
        refused("y -100 is no sign for none", r -> r.see(0, -100, 0), BAD);
    }

    @Says(promise = 22, words = "sort (0 .. 2);")
    static void seeOfNoSuchSortIsBad() {
        int[] bad = {-1, 3, LEAST, MOST};
        for (int n : bad) {
            refused("sort " + n, r -> r.see(1, 1, n), BAD);
        }
        EndlessRoots r = new EndlessRoots();
        for (int sort = 0; sort <= 2; sort++) {
            is("sort " + sort, r.see(1, 1, sort), sort + 1);
        }
    }

    @Says(promise = 22, words = {"FULL: 4.", "FULL (-4);"})
    static void theFifthSeenIsFull() {
        refused("the fifth", () -> withSeen(4), r -> r.see(2, 2, 0), FULL);
        refused("one that is there", () -> withSeen(4), r -> r.see(1, 1, 2), FULL);
        is("the fourth is not", withSeen(3).see(2, 2, 0), 4);
    }

    @Says(promise = 22, words = {"BAD: x, y (-12 .. 12 each), sort (0 .. 2); FULL: 4.", "the first that a call's words name."})
    static void seeNamesBadAheadOfFull() {
        refused("x", () -> withSeen(4), r -> r.see(13, 0, 0), BAD);
        refused("sort", () -> withSeen(4), r -> r.see(0, 0, 3), BAD);
    }

    @Says(promise = 23, words = {"`int fits()`: FITS (bits).",
        "FITS: a from 1 to 6 (bits 0 .. 5), b as it is, by which all of SEEN would be so."})
    static void fitsOfNothingSeenIsAllOfNoneIs0() {
        EndlessRoots r = new EndlessRoots();
        is("nothing seen", r.fits(), 63);
        r.see(0, 0, 0);
        is("so by all", r.fits(), 63);
        r.see(0, 0, 1);
        is("so by none", r.fits(), 0);
    }

    @Says(promise = 23, words = "a from 1 to 6 (bits 0 .. 5)")
    static void fitsEachBit() {
        for (int a = 1; a <= 6; a++) {
            EndlessRoots r = with(7 - a, 6);
            // a, 1 is 0, 1 carried by 0; with an a below, it isn't there
            r.see(-a, -1, 1);
            is("by a " + a + " alone", r.fits(), 1 << (a - 1));
            is("a stays", r.told(0), 7 - a);
        }
    }

    @Says(promise = 23, words = "b as it is")
    static void fitsGoesByBAsItIs() {
        EndlessRoots r = new EndlessRoots();
        r.see(1, 1, 1);
        r.table(2, 1);
        is("b 1", r.fits(), 63);
        r.table(2, 2);
        is("b 2", r.fits(), 1);
        r.see(1, 2, 1);
        is("b 2, two rows", r.fits(), 1);
        r.table(2, 3);
        is("b 3, two rows", r.fits(), 1);
    }

    @Says(promise = 23, words = "by which all of SEEN would be so.")
    static void fitsOnlyIfTheFourthIsSoToo() {
        EndlessRoots r = withSeen(3);
        r.table(3, 3);
        is("three alike", r.fits(), 62);
        r.see(2, 1, 1);
        is("and a fourth", r.fits(), 2);
    }

    private static void fraction(String of, long above, long below, long wantAbove, long wantBelow) {
        is(of + ", above", above, wantAbove);
        is(of + ", below", below, wantBelow);
    }

    @Says(promise = 24, words = {"`long odds(int h, int part)`: ODDS; part likewise.",
        "ODDS of h (1 .. 12): PLACES of HEIGHT h, x and y not below 0, being alike likely, how likely one is a ROOT: a "
        + "fraction in lowest terms."})
    static void oddsOf1AndOf12InLowestTerms() {
        EndlessRoots r = with(3, 3);
        fraction("2 of 2", r.odds(1, 0), r.odds(1, 1), 1, 1);
        fraction("5 of 13", r.odds(12, 0), r.odds(12, 1), 5, 13);
        fraction("2 of 4", r.odds(3, 0), r.odds(3, 1), 1, 2);
        EndlessRoots ending = with(1, 1);
        fraction("0 of 4", ending.odds(3, 0), ending.odds(3, 1), 0, 1);
        fraction("0 of 13", ending.odds(12, 0), ending.odds(12, 1), 0, 1);
    }

    @Says(promise = 24, words = "NO: h, part.")
    static void oddsBeyondIsNo() {
        int[] no = {0, 13, -1, LEAST, MOST};
        for (int h : no) {
            refused("h " + h, r -> r.odds(h, 0), NO);
            refused("h " + h, r -> r.odds(h, 1), NO);
        }
        int[] parts = {-1, 2, LEAST, MOST};
        for (int part : parts) {
            refused("part " + part, r -> r.odds(1, part), NO);
        }
    }

    @Says(promise = 25, words = {"`long mean(int h, int part)`: MEAN; part likewise.",
        "MEAN of h: COUNTED of all of these by how many there are (h and 1): a fraction in lowest terms."})
    static void meanOf1AndOf12InLowestTerms() {
        EndlessRoots r = with(6, 6);
        fraction("2 of 2", r.mean(1, 0), r.mean(1, 1), 1, 1);
        fraction("303 of 13", r.mean(12, 0), r.mean(12, 1), 303, 13);
        EndlessRoots other = with(3, 3);
        fraction("105 of 13", other.mean(12, 0), other.mean(12, 1), 105, 13);
        fraction("2 of 4", other.mean(3, 0), other.mean(3, 1), 1, 2);
        EndlessRoots ending = with(1, 1);
        fraction("0 of 4", ending.mean(3, 0), ending.mean(3, 1), 0, 1);
    }

    @Says(promise = 25, words = "NO: h, part.")
    static void meanBeyondIsNo() {
        int[] no = {0, 13, -1, LEAST, MOST};
        for (int h : no) {
            refused("h " + h, r -> r.mean(h, 0), NO);
            refused("h " + h, r -> r.mean(h, 1), NO);
        }
        int[] parts = {-1, 2, LEAST, MOST};
        for (int part : parts) {
            refused("part " + part, r -> r.mean(12, part), NO);
        }
    }

    private static EndlessRoots withEvents(int rows) {
        EndlessRoots r = withSomeOfAll();
        r.event(-1, 0);
        for (int k = 1; k <= rows; k++) {
            r.event(1, k % 6 + 1);
        }
        return r;
    }

    @Says(promise = 26, words = {"`int event(int what, int n)`: A row comes to EVENTS: how many there are",
        "EVENTS told by hand: what happens to a, b and AT", "8 rows at most): AFTER"})
    static void eventTakesEight() {
        EndlessRoots r = new EndlessRoots();
        int[][] rows = {{0, 0}, {0, 1}, {1, 1}, {1, 6}, {2, 0}, {2, 0}, {1, 3}, {0, 0}};
        for (int k = 0; k < 8; k++) {
            is("row " + k, r.event(rows[k][0], rows[k][1]), k + 1);
        }
        is("how many", r.count(1), 8);
    }

    @Says(promise = 26, words = "(what -1: none then, 0, whatever the rest is).")
    static void eventMinus1LeavesNone() {
        EndlessRoots r = withEvents(8);
        is("of eight", r.event(-1, LEAST), 0);
        is("how many", r.count(1), 0);
        is("nothing happens", r.after(1), r.told(2));
        is("of none", r.event(-1, MOST), 0);
        is("from the first on", r.event(2, 0), 1);
        refused("of none changes nothing", () -> withEvents(0), other -> other.event(-1, 7), 0);
    }

    @Says(promise = 26, words = "NONE: what (0 .. 2);")
    static void eventOfNoSuchWhatIsNone() {
        int[] none = {-2, 3, LEAST, MOST};
        for (int what : none) {
            refused("what " + what, r -> r.event(what, 1), NONE);
        }
    }

    @Says(promise = 26, words = "BAD: n (0: 0, 1; 1: 1 .. 6; 2: 0);")
    static void eventWithAWrongNumberIsBad() {
        int[][] bad = {{0, -1}, {0, 2}, {1, 0}, {1, 7}, {1, -1}, {2, 1}, {2, -1}, {0, LEAST}, {1, MOST}, {2, LEAST}};
        for (int[] n : bad) {
            refused("event(" + n[0] + ", " + n[1] + ")", r -> r.event(n[0], n[1]), BAD);
        }
    }

    @Says(promise = 26, words = "FULL: 8.")
    static void theNinthEventIsFull() {
        refused("carrying", () -> withEvents(8), r -> r.event(0, 0), FULL);
        refused("a", () -> withEvents(8), r -> r.event(1, 6), FULL);
        refused("turning", () -> withEvents(8), r -> r.event(2, 0), FULL);
        is("the eighth is not", withEvents(7).event(2, 0), 8);
    }

    @Says(promise = 26, words = {"NONE: what (0 .. 2); BAD: n (0: 0, 1; 1: 1 .. 6; 2: 0); FULL: 8.",
        "the first that a call's words name."})
    static void eventNamesNoneAheadOfBadAheadOfFull() {
        refused("what of eight", () -> withEvents(8), r -> r.event(3, 99), NONE);
        refused("n of eight", () -> withEvents(8), r -> r.event(1, 7), BAD);
        refused("n of eight", () -> withEvents(8), r -> r.event(2, 1), BAD);
    }

    private static void after(EndlessRoots r, int sort, int kind, long norm) {
        is("sort", r.after(0), sort);
        is("kind", r.after(1), kind);
        is("norm", r.after(2), norm);
    }

    @Says(promise = 27, words = {"`long after(int what)`: AFTER: what 0 SORT of AT, 1 KIND, 2 NORM of AT.",
        "AFTER, behind all of it: SORT of AT; KIND; NORM of AT."})
    static void afterNoEventsIsAsItIs() {
        EndlessRoots r = with(2, 3);
        r.place(1, 1);
        after(r, 2, 2, 6 - 12 + 4);
        r.place(999, -999);
        after(r, 0, 2, 22 * 998001L);
    }

    @Says(promise = 27, words = "(0 AT is carried by REFLECTION n, if it doesn't leave;")
    static void afterAReflectionThatWouldLeave() {
        EndlessRoots r = new EndlessRoots();
        r.place(0, 500);
        r.event(0, 0);
        after(r, 0, 1, 4 * 250000L);
        r.event(0, 1);
        // 0, 500 still, by 1 to 0, -500
        r.event(1, 1);
        r.event(0, 0);
        // by 0 with a 1 to -500, -500
        after(r, 0, 0, 4 * 250000L - 4 * 250000L + 2 * 250000L);
        r.place(-1, 499);
        r.event(-1, 0);
        r.event(0, 0);
        r.event(1, 6);
        // 999, 499 is not beyond
        is("to the very edge", r.after(2), 4 * 999L * 999 - 24 * 999L * 499 + 12 * 499L * 499);
        isAt(r, -1, 499);
    }

    @Says(promise = 27, words = "1 a becomes n (1 .. 6);")
    static void afterABecomesTheLeastAndTheMost() {
        EndlessRoots r = with(3, 2);
        r.place(1, 1);
        r.event(1, 1);
        after(r, 1, 0, 4 - 4 + 2);
        r.event(1, 6);
        after(r, 2, 2, 4 - 24 + 12);
        isTable(r, 3, 2);
    }

    @Says(promise = 27, words = "2 a and b change places, x and y of AT, too (n 0);")
    static void afterAllChangePlaces() {
        EndlessRoots r = with(1, 6);
        r.place(3, -999);
        r.event(2, 0);
        r.event(1, 5);
        // a 5, b 1, AT -999, 3
        is("norm", r.after(2), 2 * 998001L + 10 * 999L * 3 + 10 * 9);
        is("kind", r.after(1), 2);
        r.event(-1, 0);
        for (int k = 0; k < 8; k++) {
            r.event(2, 0);
        }
        is("eight times", r.after(2), 12 * 9 + 12 * 3 * 999L + 2 * 998001L);
    }

    @Says(promise = 27, words = "AFTER, behind all of it:")
    static void afterTheEighthRowToo() {
        EndlessRoots r = withEvents(7);
        r.table(2, 2);
        r.place(1, 0);
        r.event(1, 1);
        is("kind by a 1, b 2", r.after(1), 0);
        EndlessRoots last = withEvents(7);
        last.table(2, 1);
        last.event(1, 4);
        is("kind by a 4, b 1", last.after(1), 1);
    }

    @Says(promise = 27, words = "NO: what.")
    static void afterNoSuchWhatIsNo() {
        int[] no = {-1, 3, LEAST, MOST};
        for (int what : no) {
            refused("what " + what, r -> r.after(what), NO);
        }
    }

    private static EndlessRoots withBook(int rows) {
        EndlessRoots r = withSomeOfAll();
        r.book(-1, 0, 0);
        for (int k = 1; k <= rows; k++) {
            r.book(1, 0, 1);
        }
        return r;
    }

    @Says(promise = 28, words = {"`int book(int x, int y, int n)`: A row comes to the BOOK: how many there are",
        "A BOOK told by hand: PLACES (x, y 0 .. 12, HEIGHT 1 to 12), COUNTED (8 rows at most):"})
    static void bookTakesEightRowsOfTheFarthest() {
        EndlessRoots r = new EndlessRoots();
        int[][] rows = {{12, 0, 0}, {0, 12, 999}, {1, 0, 0}, {0, 1, 1}, {6, 6, 1}, {6, 6, 1}, {11, 1, 5}, {1, 11, 5}};
        for (int k = 0; k < 8; k++) {
            is("row " + k, r.book(rows[k][0], rows[k][1], rows[k][2]), k + 1);
        }
        is("how many", r.count(2), 8);
    }

    @Says(promise = 28, words = "(x -1: it is empty then, 0, whatever the rest is).")
    static void bookMinus1EmptiesIt() {
        EndlessRoots r = withBook(8);
        is("of eight", r.book(-1, LEAST, MOST), 0);
        is("how many", r.count(2), 0);
        is("of none", r.book(-1, 13, -1), 0);
        is("from the first on", r.book(1, 0, 0), 1);
        refused("of none changes nothing", () -> withBook(0), other -> other.book(-1, 1, 1), 0);
    }

    @Says(promise = 28, words = "BAD: x, y (0 .. 12 each, HEIGHT 1 to 12), n (0 .. 999);")
    static void bookOfNoSuchPlaceIsBad() {
        int[][] bad = {{0, 0}, {13, 0}, {0, 13}, {12, 1}, {7, 6}, {-2, 3}, {3, -1}, {0, -1}, {13, -1}, {LEAST, 0}, {0, LEAST},
            {MOST, MOST}, {MOST, LEAST + 2}};
        for (int[] n : bad) {
            refused("book(" + n[0] + ", " + n[1] + ", 1)", r -> r.book(n[0], n[1], 1), BAD);
        }
    }

    @Says(promise = 28, words = "n (0 .. 999);")
    static void bookOfNoSuchNumberIsBad() {
        int[] bad = {-1, 1000, LEAST, MOST};
        for (int n : bad) {
            refused("n " + n, r -> r.book(1, 1, n), BAD);
        }
    }

    @Says(promise = 28, words = "FULL: 8.")
    static void theNinthRowOfTheBookIsFull() {
        refused("the ninth", () -> withBook(8), r -> r.book(1, 1, 0), FULL);
        is("the eighth is not", withBook(7).book(1, 1, 0), 8);
    }

    @Says(promise = 28, words = {"n (0 .. 999); FULL: 8.", "the first that a call's words name."})
    static void bookNamesBadAheadOfFull() {
        refused("x", () -> withBook(8), r -> r.book(13, 0, 0), BAD);
        refused("n", () -> withBook(8), r -> r.book(1, 0, 1000), BAD);
    }

    @Says(promise = 29, words = {"`int looked()`: LOOKED at; -5.",
        "LOOKED at: the number (from 0) of the first of these rows that is otherwise now (-5: none)."})
    static void lookedAtNothingAndAtAllSo() {
        is("nothing booked", new EndlessRoots().looked(), -5);
        is("eight that are so", withBook(8).looked(), -5);
        EndlessRoots r = with(6, 6);
        r.book(6, 6, r.counted(6, 6));
        r.book(12, 0, 0);
        r.book(0, 12, 0);
        is("the farthest", r.looked(), -5);
    }

    @Says(promise = 29, words = "the number (from 0) of the first of these rows that is otherwise now")
    static void lookedFindsTheFirstAndTheLast() {
        for (int wrong = 0; wrong < 8; wrong++) {
            EndlessRoots r = withBook(wrong);
            for (int k = wrong; k < 8; k++) {
                r.book(1, 0, 0);
            }
            is("from row " + wrong + " on", r.looked(), wrong);
        }
        EndlessRoots r = withBook(7);
        r.book(0, 1, 999);
        is("the eighth alone", r.looked(), 7);
    }

    @Says(promise = 29, words = "that is otherwise now")
    static void lookedGoesByTheTableAsItIsNow() {
        EndlessRoots r = with(3, 3);
        r.book(2, 3, 2);
        is("by 3 3", r.looked(), -5);
        r.table(2, 2);
        is("by 2 2", r.looked(), 0);
        r.table(3, 3);
        is("by 3 3 again", r.looked(), -5);
    }

    @Says(promise = 29, words = {"==== 2 All that follows is asked, and changes nothing.", "what is asked changes nothing."})
    static void whatIsAskedChangesNothing() {
        // 1, 1 and 2, 1 are OTHER by b 2 from a 3 on
        refused("fits", EndlessRoots::fits, 60);
        refused("odds", r -> r.odds(1, 1), 1);
        refused("mean", r -> r.mean(1, 1), 1);
        // a 5, b 2, AT 5, -7; by 1 to 5, 17; turned: a 2, b 5, AT 17, 5
        refused("after", r -> r.after(2), 2890 - 1700 + 100);
        refused("looked", EndlessRoots::looked, -5);
    }
}
