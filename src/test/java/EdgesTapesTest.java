/** Promises 30 to 37 at their edges: judging, THE IMAGE, counts, the TAPES. */
public final class EdgesTapesTest extends Edges {
    private static final int[] NO_TAPES = {-1, 6, LEAST, MOST};

    public static void main(String[] args) throws IllegalAccessException {
        run(EdgesTapesTest.class);
    }

    /** By 2 2 all LEVELS from 2 on come to 1 or 2: 2, 1, 2, 1, .. */
    private static EndlessRoots withLevels(int from, int n, int length) {
        EndlessRoots r = new EndlessRoots();
        r.tape(0, INTS, length);
        for (int k = 0; k < n; k++) {
            r.item(0, from + k, k % 2 == 0 ? 2 : 1);
        }
        return r;
    }

    @Says(promise = 30, words = {"`int judge(int tape, int i)`: JUDGED from place i of a TAPE on.",
        "COUNTED of LEVELS 1, 2, .. 12, each together, told by a row of ints, from a place on, are JUDGED:", "-5: none;"})
    static void judgeOfTwelveThatAreSo() {
        is("from 0 on", withLevels(0, 12, 12).judge(0, 0), -5);
        is("from 48 on", withLevels(48, 12, 60).judge(0, 48), -5);
        is("what stands behind does not matter", withLevels(3, 12, 20).judge(0, 3), -5);
    }

    @Says(promise = 30, words = "the first LEVEL that is otherwise;")
    static void judgeFindsTheFirstAndTheTwelfth() {
        for (int h = 1; h <= 12; h++) {
            EndlessRoots r = withLevels(5, 12, 17);
            r.item(0, 5 + 11, 7);
            r.item(0, 5 + h - 1, -1);
            is("level " + h, r.judge(0, 5), h);
        }
    }

    @Says(promise = 30, words = "the first LEVEL that is otherwise;")
    static void judgeGoesByTheTableAsItIs() {
        EndlessRoots r = withLevels(0, 12, 12);
        r.table(1, 1);
        is("by 1 1", r.judge(0, 0), 3);
        r.table(2, 2);
        is("by 2 2", r.judge(0, 0), -5);
    }

    @Says(promise = 30, words = "100 and how many were looked at, if the row ends ahead of that")
    static void judgeOfARowThatEnds() {
        for (int n = 0; n <= 11; n++) {
            is("a row of " + n, withLevels(0, n, n).judge(0, 0), 100 + n);
            is("the last " + n, withLevels(60 - n, n, 60).judge(0, 60 - n), 100 + n);
        }
        EndlessRoots r = withLevels(0, 4, 4);
        r.item(0, 3, 9);
        is("what is otherwise comes ahead of the end", r.judge(0, 0), 4);
        is("at the end", r.judge(0, 4), 100);
        is("beyond the end", r.judge(0, 5), 100);
        is("most", r.judge(0, MOST), 100);
        is("wrapping round", r.judge(0, MOST - 5), 100);
    }

    @Says(promise = 30, words = "(or the place is below 0,")
    static void judgeFromAPlaceBelow0() {
        is("-1", withLevels(0, 12, 12).judge(0, -1), 100);
        is("-12", withLevels(0, 12, 12).judge(0, -12), 100);
        is("least", withLevels(0, 12, 12).judge(0, LEAST), 100);
    }

    @Says(promise = 30, words = "or the TAPE holds nothing).")
    static void judgeOfATapeThatHoldsNothing() {
        EndlessRoots r = withLevels(0, 12, 12);
        is("at first", r.judge(5, 0), 100);
        is("and below 0", r.judge(5, -1), 100);
        is("and far", r.judge(5, MOST), 100);
        r.tape(0, -1, 0);
        is("any more", r.judge(0, 0), 100);
    }

    @Says(promise = 30, words = "NONE: tape;")
    static void judgeOfNoTapeIsNone() {
        for (int tape : NO_TAPES) {
            refused("tape " + tape, r -> r.judge(tape, 0), NONE);
            refused("tape " + tape + ", a place below 0", r -> r.judge(tape, -1), NONE);
        }
    }

    @Says(promise = 30, words = {"CAST: it is no row of ints.", "CAST (-12): another sort;"})
    static void judgeOfAnotherSortIsCast() {
        int[] others = {BYTES, SHORTS, LONGS, BOOLEANS};
        for (int sort : others) {
            refused("sort " + sort, r -> r.judge(sort, 0), CAST);
            refused("sort " + sort + ", below 0", r -> r.judge(sort, -1), CAST);
            refused("sort " + sort + ", beyond", r -> r.judge(sort, 4), CAST);
            EndlessRoots r = new EndlessRoots();
            r.tape(0, sort, 0);
            is("a row of 0 of sort " + sort, r.judge(0, 0), CAST);
        }
        refused("ints", r -> r.judge(INTS, 0), 1);
    }

    @Says(promise = 31, words = {"`int image()`: THE IMAGE is taken: 10 times a and b, together.",
        "THE IMAGE: a, b, AT, NOTES, SEEN, EVENTS, the BOOK."})
    static void imageOfTheLeastAndTheMostTable() {
        is("1 6", with(1, 6).image(), 16);
        is("6 1", with(6, 1).image(), 61);
        is("at first", new EndlessRoots().image(), 22);
    }

    @Says(promise = 31, words = "THE IMAGE is taken:")
    static void theImageOfNothingTakesAllAway() {
        EndlessRoots r = new EndlessRoots();
        r.image();
        r.table(6, 6);
        noteSome(r, 8);
        for (int k = 0; k < 8; k++) {
            r.see(1, 1, 1);
            r.event(1, 1);
            r.book(1, 1, 9);
        }
        is("undo", r.undo(), 22);
        isAt(r, 1, 0);
        is("notes", r.told(6), 0);
        for (int what = 0; what <= 2; what++) {
            is("count(" + what + ")", r.count(what), 0);
        }
        is("fits", r.fits(), 63);
        is("looked", r.looked(), -5);
    }

    @Says(promise = 31, words = "THE IMAGE: a, b, AT, NOTES, SEEN, EVENTS, the BOOK.")
    static void theImageOfFullRoomsBringsAllBack() {
        EndlessRoots r = new EndlessRoots();
        noteSome(r, 8);
        for (int k = 0; k < 8; k++) {
            r.see(1, 1, 2);
            r.event(1, 6);
            r.book(1, 1, 1);
        }
        r.image();
        r.table(1, 1);
        r.wipe();
        r.see(-100, 0, 0);
        r.event(-1, 0);
        r.book(-1, 0, 0);
        r.place(0, 0);
        is("undo", r.undo(), 22);
        isAt(r, 8, 80);
        is("the first note", r.noted(0, 1), 1010);
        is("the eighth note", r.noted(7, 1), 1080);
        is("seen", r.count(0), 4);
        is("seen", r.fits(), 62);
        is("events", r.count(1), 8);
        is("events", r.after(1), 2);
        is("book", r.count(2), 8);
        is("book", r.looked(), -5);
        is("full", r.book(1, 1, 1), FULL);
    }

    @Says(promise = 31, words = "THE IMAGE is taken:")
    static void whatComesBehindTheImageIsNotOfIt() {
        EndlessRoots r = withSomeOfAll();
        r.image();
        r.wipe();
        r.note();
        r.event(-1, 0);
        r.event(1, 1);
        r.undo();
        is("notes", r.told(6), 3);
        is("the first note", r.noted(0, 0), 1001);
        is("events", r.count(1), 3);
        is("kind by a 2, b 5", r.after(1), 2);
    }

    @Says(promise = 32, words = "`int undo()`: All is as THE IMAGE: 10 times a and b, together.")
    static void undoGoesToTheNewestImageAndAgain() {
        EndlessRoots r = with(3, 4);
        r.image();
        r.table(5, 6);
        r.image();
        r.table(1, 1);
        is("the newest", r.undo(), 56);
        r.table(1, 2);
        is("again", r.undo(), 56);
        is("at once again", r.undo(), 56);
        isTable(r, 5, 6);
    }

    @Says(promise = 32, words = "All is as THE IMAGE:")
    static void undoLeavesTextAndTapesAsTheyAre() {
        EndlessRoots r = new EndlessRoots();
        feed(r, "no");
        r.tape(0, INTS, 2);
        r.image();
        feed(r, "te");
        r.item(0, 1, 5);
        r.tape(1, LONGS, 1);
        r.undo();
        is("bytes", r.count(3), 4);
        is("an item", r.peek(0, 1), 5);
        is("a tape", r.peek(1, 0), 0);
        is("the text", r.read(), 1);
    }

    @Says(promise = 32, words = {"STATE: there is none.", "STATE (-3) as told;"})
    static void undoWithoutAnImageIsState() {
        refused("at first", EndlessRoots::new, EndlessRoots::undo, STATE);
        refused("behind a table", () -> with(6, 6), EndlessRoots::undo, STATE);
    }

    @Says(promise = 33, words = "`int count(int what)`: How many: 0 SEEN, 1 EVENTS, 2 of the BOOK, 3 bytes of THE TEXT.")
    static void countOfNoneAndOfTheMost() {
        EndlessRoots r = new EndlessRoots();
        for (int what = 0; what <= 3; what++) {
            is("none, " + what, r.count(what), 0);
        }
        for (int k = 0; k < 101; k++) {
            r.see(0, 0, 0);
            r.event(2, 0);
            r.book(1, 1, 1);
            r.feed(0);
        }
        int[] most = {4, 8, 8, 100};
        for (int what = 0; what <= 3; what++) {
            is("most, " + what, r.count(what), most[what]);
        }
    }

    @Says(promise = 33, words = {"BAD.", "BAD (-2) a number is not as told;"})
    static void countOfNoSuchIsBad() {
        int[] bad = {-1, 4, LEAST, MOST};
        for (int what : bad) {
            refused("count(" + what + ")", r -> r.count(what), BAD);
        }
    }

    @Says(promise = 34, words = {"`int tape(int tape, int sort, int n)`: A TAPE becomes a row of n (0 .. 60) of a sort, all 0,",
        "==== 3 TAPES 0 .. 5 hold nothing (at first), or a row of 0 bytes, 1 shorts, 2 ints, 3 longs, 4 booleans"})
    static void tapeOf0AndOf60() {
        for (int sort = BYTES; sort <= BOOLEANS; sort++) {
            EndlessRoots r = new EndlessRoots();
            is("tape 0, a row of 60", r.tape(0, sort, 60), 1);
            is("tape 5, a row of 0", r.tape(5, sort, 0), 1);
            is("the last", r.peek(0, 59), 0);
            is("behind the last", r.peek(0, 60), NO);
            is("the first of none", r.peek(5, 0), NO);
            is("none, but there", r.item(5, 0, 1), PLACE);
        }
    }

    @Says(promise = 34, words = "==== 3 TAPES 0 .. 5 hold nothing (at first)")
    static void tapesHoldNothingAtFirst() {
        EndlessRoots r = new EndlessRoots();
        for (int tape = 0; tape <= 5; tape++) {
            is("item of tape " + tape, r.item(tape, 0, 1), NOTHING);
            is("peek of tape " + tape, r.peek(tape, 0), NO);
        }
    }

    @Says(promise = 34, words = "A TAPE becomes a row of n (0 .. 60) of a sort, all 0,")
    static void aTapeIsAll0Anew() {
        EndlessRoots r = new EndlessRoots();
        r.tape(2, LONGS, 60);
        for (int i = 0; i < 60; i++) {
            r.item(2, i, -1);
        }
        r.tape(2, LONGS, 3);
        r.tape(2, LONGS, 60);
        for (int i = 0; i < 60; i++) {
            is("item " + i, r.peek(2, i), 0);
        }
        r.item(2, 0, 5);
        r.tape(2, INTS, 60);
        is("of another sort", r.peek(2, 0), 0);
    }

    @Says(promise = 34, words = "or holds nothing (sort -1: n does not matter): 1.")
    static void aTapeHoldsNothingWhateverN() {
        int[] any = {0, 60, 61, -1, LEAST, MOST};
        for (int n : any) {
            EndlessRoots r = new EndlessRoots();
            r.tape(1, INTS, 3);
            is("n " + n, r.tape(1, -1, n), 1);
            is("nothing there", r.item(1, 0, 1), NOTHING);
            is("of nothing, n " + n, r.tape(1, -1, n), 1);
        }
        refused("of what held nothing", r -> r.tape(5, -1, 9), 1);
    }

    @Says(promise = 34, words = {"NONE: tape;", "Answers: NONE (-1) no such number;"})
    static void tapeOfNoTapeIsNone() {
        for (int tape : NO_TAPES) {
            refused("tape " + tape, r -> r.tape(tape, INTS, 1), NONE);
            refused("tape " + tape + ", sort -1", r -> r.tape(tape, -1, 1), NONE);
        }
    }

    @Says(promise = 34, words = "BAD: sort, n above 60;")
    static void tapeOfNoSuchSortOrAbove60IsBad() {
        int[] bad = {-2, 5, LEAST, MOST};
        for (int sort : bad) {
            refused("sort " + sort, r -> r.tape(2, sort, 1), BAD);
        }
        refused("n 61", r -> r.tape(2, INTS, 61), BAD);
        refused("n most", r -> r.tape(2, INTS, MOST), BAD);
    }

    @Says(promise = 34, words = {"SIZE.", "SIZE (-14): a size below 0."})
    static void tapeOfASizeBelow0IsSize() {
        for (int sort = BYTES; sort <= BOOLEANS; sort++) {
            int of = sort;
            refused("-1 of sort " + sort, r -> r.tape(2, of, -1), SIZE);
            refused("least of sort " + sort, r -> r.tape(2, of, LEAST), SIZE);
        }
    }

    @Says(promise = 34, words = {"NONE: tape; BAD: sort, n above 60; SIZE.", "the first that a call's words name."})
    static void tapeNamesNoneAheadOfBadAheadOfSize() {
        refused("tape and sort", r -> r.tape(6, 5, 1), NONE);
        refused("tape and n", r -> r.tape(-1, 0, 61), NONE);
        refused("tape and size", r -> r.tape(6, 0, -1), NONE);
        refused("sort and size", r -> r.tape(0, 5, -1), BAD);
        refused("sort and size", r -> r.tape(0, -2, LEAST), BAD);
    }

    private static void keeps(int sort, long v, long want) {
        EndlessRoots r = new EndlessRoots();
        r.tape(0, sort, 1);
        is("sort " + sort + ", item " + v, r.item(0, 0, v), 1);
        is("sort " + sort + ", peek behind " + v, r.peek(0, 0), want);
    }

    @Says(promise = 35, words = {"`int item(int tape, int i, long v)`: Item i of a TAPE becomes v",
        "(its lowest bits, as many as an item has;"})
    static void itemWrapsRoundToItsLowestBits() {
        keeps(BYTES, 127, 127);
        keeps(BYTES, 128, -128);
        keeps(BYTES, -129, 127);
        keeps(BYTES, 256, 0);
        keeps(SHORTS, 32767, 32767);
        keeps(SHORTS, 32768, -32768);
        keeps(SHORTS, 65536, 0);
        keeps(INTS, MOST, MOST);
        keeps(INTS, MOST + 1L, LEAST);
        keeps(INTS, 1L << 32, 0);
        keeps(LONGS, Long.MAX_VALUE, Long.MAX_VALUE);
        keeps(LONGS, Long.MIN_VALUE, Long.MIN_VALUE);
        keeps(LONGS, -1, -1);
    }

    @Says(promise = 35, words = {"booleans: whether v is not 0): 1.", "4 booleans (items 0, 1)."})
    static void itemOfBooleansIsWhetherItIsNot0() {
        long[] all = {1, 2, -1, 256, 1L << 32, Long.MIN_VALUE, Long.MAX_VALUE};
        for (long v : all) {
            keeps(BOOLEANS, v, 1);
        }
        keeps(BOOLEANS, 0, 0);
        EndlessRoots r = new EndlessRoots();
        r.tape(0, BOOLEANS, 1);
        r.item(0, 0, 2);
        r.item(0, 0, 0);
        is("0 again", r.peek(0, 0), 0);
    }

    @Says(promise = 35, words = "Item i of a TAPE becomes v")
    static void itemOfTheFirstAndTheLast() {
        EndlessRoots r = new EndlessRoots();
        for (int tape = 0; tape <= 5; tape++) {
            r.tape(tape, LONGS, 60);
            is("the first", r.item(tape, 0, 100 + tape), 1);
            is("the last", r.item(tape, 59, 200 + tape), 1);
        }
        for (int tape = 0; tape <= 5; tape++) {
            is("the first", r.peek(tape, 0), 100 + tape);
            is("the second", r.peek(tape, 1), 0);
            is("the last but one", r.peek(tape, 58), 0);
            is("the last", r.peek(tape, 59), 200 + tape);
        }
    }

    @Says(promise = 35, words = "NONE;")
    static void itemOfNoTapeIsNone() {
        for (int tape : NO_TAPES) {
            refused("tape " + tape, r -> r.item(tape, 0, 1), NONE);
        }
    }

    @Says(promise = 35, words = {"NOTHING;", "The host's refusals: NOTHING (-11): nothing is there;"})
    static void itemOfNothingIsNothing() {
        refused("tape 5", r -> r.item(5, 0, 1), NOTHING);
    }

    @Says(promise = 35, words = {"PLACE.", "PLACE (-13): no such place;"})
    static void itemOfNoSuchPlaceIsPlace() {
        int[] no = {-1, 4, LEAST, MOST};
        for (int tape = 0; tape <= 4; tape++) {
            int of = tape;
            for (int i : no) {
                refused("tape " + tape + ", place " + i, r -> r.item(of, i, 1), PLACE);
            }
        }
    }

    @Says(promise = 35, words = {"NONE; NOTHING; PLACE.", "the first that a call's words name."})
    static void itemNamesNoneAheadOfNothingAheadOfPlace() {
        refused("no tape, no place", r -> r.item(6, -1, 1), NONE);
        refused("nothing there, no place", r -> r.item(5, -1, 1), NOTHING);
        refused("nothing there, no place", r -> r.item(5, MOST, 1), NOTHING);
    }

    @Says(promise = 36, words = "`long peek(int tape, int i)`: Item i of a TAPE.")
    static void peekOfTheFirstAndTheLast() {
        EndlessRoots r = new EndlessRoots();
        r.tape(5, SHORTS, 60);
        r.item(5, 0, -3);
        r.item(5, 59, 3);
        is("the first", r.peek(5, 0), -3);
        is("the last", r.peek(5, 59), 3);
        refused("what is asked changes nothing", other -> other.peek(0, 1), -1);
    }

    @Says(promise = 36, words = {"NO: no such TAPE, nothing there, no such place.",
        "The constants: `NO = Long.MIN_VALUE`: There is no such number."})
    static void peekOfNoTapeNothingOrNoPlaceIsNo() {
        for (int tape : NO_TAPES) {
            refused("tape " + tape, r -> r.peek(tape, 0), NO);
        }
        refused("nothing there", r -> r.peek(5, 0), NO);
        int[] no = {-1, 4, LEAST, MOST};
        for (int i : no) {
            refused("place " + i, r -> r.peek(3, i), NO);
        }
        EndlessRoots r = new EndlessRoots();
        r.tape(0, LONGS, 2);
        r.item(0, 1, 9);
        r.tape(0, LONGS, 1);
        is("of a shorter row", r.peek(0, 1), NO);
        r.tape(0, -1, 0);
        is("nothing any more", r.peek(0, 0), NO);
    }

    /** Tape 0 holds 1 to 6, tape 1 four noughts, tape 2 longs, tape 5 nothing. */
    private static EndlessRoots withRows() {
        EndlessRoots r = new EndlessRoots();
        r.tape(0, INTS, 6);
        r.tape(1, INTS, 4);
        r.tape(2, LONGS, 6);
        for (int i = 0; i < 6; i++) {
            r.item(0, i, i + 1);
        }
        return r;
    }

    private static void holds(EndlessRoots r, int tape, int... want) {
        for (int i = 0; i < want.length; i++) {
            is("tape " + tape + ", item " + i, r.peek(tape, i), want[i]);
        }
        is("tape " + tape + ", its end", r.peek(tape, want.length), NO);
    }

    @Says(promise = 37, words = "`int shift(int tape, int i, int other, int j, int n)`: n items of a TAPE from i on come to "
        + "another one (or the same) from j on, as they all were before: n.")
    static void shiftToAnotherUpToTheEnd() {
        EndlessRoots r = withRows();
        is("the last two to the last two", r.shift(0, 4, 1, 2, 2), 2);
        holds(r, 1, 0, 0, 5, 6);
        is("as many as the other has", r.shift(0, 2, 1, 0, 4), 4);
        holds(r, 1, 3, 4, 5, 6);
        holds(r, 0, 1, 2, 3, 4, 5, 6);
        EndlessRoots whole = new EndlessRoots();
        whole.tape(0, LONGS, 60);
        whole.tape(1, LONGS, 60);
        whole.item(0, 0, 7);
        whole.item(0, 59, 8);
        is("sixty", whole.shift(0, 0, 1, 0, 60), 60);
        is("the first of sixty", whole.peek(1, 0), 7);
        is("the last of sixty", whole.peek(1, 59), 8);
    }

    @Says(promise = 37, words = "(or the same) from j on, as they all were before: n.")
    static void shiftWithinTheSameAsTheyWereBefore() {
        EndlessRoots up = withRows();
        is("up", up.shift(0, 0, 0, 1, 5), 5);
        holds(up, 0, 1, 1, 2, 3, 4, 5);
        EndlessRoots down = withRows();
        is("down", down.shift(0, 1, 0, 0, 5), 5);
        holds(down, 0, 2, 3, 4, 5, 6, 6);
        EndlessRoots still = withRows();
        is("to where they are", still.shift(0, 0, 0, 0, 6), 6);
        holds(still, 0, 1, 2, 3, 4, 5, 6);
    }

    @Says(promise = 37, words = "n items of a TAPE from i on come to another one")
    static void shiftOfNoneIs0() {
        refused("from and to the end", EdgesTapesTest::withRows, r -> r.shift(0, 6, 1, 4, 0), 0);
        refused("from the beginning", EdgesTapesTest::withRows, r -> r.shift(0, 0, 1, 0, 0), 0);
        EndlessRoots r = new EndlessRoots();
        r.tape(0, BYTES, 0);
        is("of a row of 0", r.shift(0, 0, 0, 0, 0), 0);
    }

    @Says(promise = 37, words = "NONE: tapes;")
    static void shiftOfNoTapeIsNone() {
        for (int tape : NO_TAPES) {
            refused("from " + tape, r -> r.shift(tape, 0, 0, 0, 1), NONE);
            refused("to " + tape, r -> r.shift(0, 0, tape, 0, 1), NONE);
        }
    }

    @Says(promise = 37, words = "NOTHING;")
    static void shiftOfNothingIsNothing() {
        refused("from nothing", r -> r.shift(5, 0, 0, 0, 0), NOTHING);
        refused("to nothing", r -> r.shift(0, 0, 5, 0, 0), NOTHING);
        refused("from nothing to itself", r -> r.shift(5, 0, 5, 0, 0), NOTHING);
    }

    @Says(promise = 37, words = "CAST: of unlike sorts;")
    static void shiftOfUnlikeSortsIsCast() {
        for (int from = BYTES; from <= BOOLEANS; from++) {
            for (int to = BYTES; to <= BOOLEANS; to++) {
                int tape = from;
                int other = to;
                if (from != to) {
                    refused(from + " to " + to, r -> r.shift(tape, 0, other, 0, 1), CAST);
                }
            }
            EndlessRoots r = withSomeOfAll();
            r.tape(5, from, 1);
            is("like sorts " + from, r.shift(from, 1, 5, 0, 1), 1);
        }
    }

    @Says(promise = 37, words = "PLACE: n, i or j is below 0, or beyond either's end.")
    static void shiftBelow0IsPlace() {
        int[] below = {-1, LEAST};
        for (int n : below) {
            refused("i " + n, EdgesTapesTest::withRows, r -> r.shift(0, n, 1, 0, 1), PLACE);
            refused("j " + n, EdgesTapesTest::withRows, r -> r.shift(0, 0, 1, n, 1), PLACE);
            refused("n " + n, EdgesTapesTest::withRows, r -> r.shift(0, 2, 1, 2, n), PLACE);
            refused("i " + n + ", none of them", EdgesTapesTest::withRows, r -> r.shift(0, n, 1, 0, 0), PLACE);
            refused("j " + n + ", none of them", EdgesTapesTest::withRows, r -> r.shift(0, 0, 1, n, 0), PLACE);
        }
    }

    @Says(promise = 37, words = "or beyond either's end.")
    static void shiftBeyondEithersEndIsPlace() {
        int[][] beyond = {{3, 0, 4}, {0, 1, 4}, {0, 0, 5}, {6, 0, 1}, {0, 4, 1}, {7, 0, 0}, {0, 5, 0}, {MOST, 0, 1},
            {0, MOST, 1}, {0, 0, MOST}, {1, 1, MOST}, {MOST, MOST, MOST}, {MOST, 0, 0}, {0, MOST, 0}};
        for (int[] n : beyond) {
            refused("shift(0, " + n[0] + ", 1, " + n[1] + ", " + n[2] + ")", EdgesTapesTest::withRows,
                r -> r.shift(0, n[0], 1, n[1], n[2]), PLACE);
        }
    }

    @Says(promise = 37, words = {"NONE: tapes; NOTHING; CAST: of unlike sorts; PLACE:", "the first that a call's words name."})
    static void shiftNamesThemInTheirOrder() {
        refused("no tape, nothing", r -> r.shift(6, 0, 5, 0, 1), NONE);
        refused("nothing, no tape", r -> r.shift(5, 0, 6, 0, 1), NONE);
        refused("no tape, no place", r -> r.shift(0, -1, 6, 0, 1), NONE);
        refused("nothing, no place", r -> r.shift(0, -1, 5, 0, 1), NOTHING);
        refused("nothing, n below 0", r -> r.shift(5, 0, 0, 0, -1), NOTHING);
        refused("unlike, no place", r -> r.shift(0, -1, 1, 0, 1), CAST);
        refused("unlike, beyond", r -> r.shift(2, 0, 3, 0, 5), CAST);
    }
}
