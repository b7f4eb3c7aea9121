/** Promises 1 to 6 at their edges: a new object, the table, AT, the NOTES. */
public final class EdgesTableTest extends Edges {
    public static void main(String[] args) throws IllegalAccessException {
        run(EdgesTableTest.class);
    }

    @Says(promise = 1, words = {"`EndlessRoots()`: a 2, b 2, AT 1, 0.", "6 each; 2 and 2 at first)",
        "AT: a PLACE that is carried by hand (1, 0 at first)."})
    static void aNewObjectHasTheTable22AndIsAt10() {
        EndlessRoots r = new EndlessRoots();
        isTable(r, 2, 2);
        isAt(r, 1, 0);
    }

    @Says(promise = 1, words = "An object is used for at most 512 calls after it has been made")
    static void the512thCallIsAsGoodAsTheFirst() {
        EndlessRoots r = new EndlessRoots();
        for (int call = 1; call <= 512; call++) {
            is("call " + call, r.carry(0), call % 2 == 1 ? 4999 : 5001);
        }
    }

    @Says(promise = 1, words = "An object is used for at most 512 calls after it has been made")
    static void allRoomsCanBeFullAtOnce() {
        EndlessRoots r = new EndlessRoots();
        noteSome(r, 8);
        for (int k = 1; k <= 8; k++) {
            r.see(1, 1, 2);
            r.event(2, 0);
            r.book(1, 1, 1);
        }
        for (int k = 1; k <= 100; k++) {
            r.feed(' ');
        }
        for (int tape = 0; tape <= 5; tape++) {
            r.tape(tape, LONGS, 60);
            r.item(tape, 59, tape);
        }
        is("notes", r.told(6), 8);
        int[] most = {4, 8, 8, 100};
        for (int what = 0; what <= 3; what++) {
            is("count(" + what + ")", r.count(what), most[what]);
        }
        for (int tape = 0; tape <= 5; tape++) {
            is("the last item of tape " + tape, r.peek(tape, 59), tape);
        }
    }

    @Says(promise = 1, words = "What is answered so changes nothing;")
    static void whatIsRefusedLeavesANewObjectNew() {
        refused("all calls that can be refused, how many were not", EndlessRoots::new, EdgesTableTest::notRefused, 0);
    }

    private static long notRefused(EndlessRoots r) {
        long[] answers = {r.table(0, 7), r.place(1000, 0), r.carry(2), r.feed(128), r.read(), r.told(7), r.noted(0, 0),
            r.norm(1000, 0), r.product(0, 0, 0, 1000), r.coat(2, 0, 0), r.coat(0, 0, 1000), r.sort(0, 1000),
            r.lowered(-1, 0, 0), r.lowered(0, 0, 3), r.string(2, 1, 1, 0), r.string(0, 100, 1, 0), r.string(0, 1, 0, 0),
            r.counted(0, 0), r.c(0, 0, 0), r.c(1, 0, 2), r.level(0, 0), r.level(1, 2), r.made(7, 6), r.signed(7, 6),
            r.see(13, 0, 0), r.see(0, 0, 3), r.odds(0, 0), r.mean(1, 2), r.event(3, 0), r.event(1, 0), r.after(3),
            r.book(0, 0, 0), r.book(1, 0, 1000), r.judge(6, 0), r.undo(), r.count(4), r.tape(6, 0, 0), r.tape(0, 5, 0),
            r.tape(0, 0, -1), r.item(6, 0, 0), r.item(0, 0, 1), r.peek(0, 0), r.shift(0, 0, 6, 0, 0), r.shift(0, 0, 1, 0, 0)};
        int not = 0;
        for (long answer : answers) {
            not += answer < 0 ? 0 : 1;
        }
        return not;
    }

    @Says(promise = 2, words = "`int table(int a, int b)`: a and b become these: 10 times a as it was, and b, together.")
    static void tableAnswersTheTableAsItWas() {
        EndlessRoots r = new EndlessRoots();
        is("behind 2 2", r.table(3, 5), 22);
        isTable(r, 3, 5);
        is("behind 3 5", r.table(6, 1), 35);
        is("behind 6 1", r.table(1, 6), 61);
        is("behind 1 6", r.table(1, 6), 16);
        isTable(r, 1, 6);
    }

    @Says(promise = 2, words = "6 each; 2 and 2 at first)")
    static void tableTakesAllFrom1To6() {
        EndlessRoots r = new EndlessRoots();
        int before = 22;
        for (int a = 1; a <= 6; a++) {
            for (int b = 1; b <= 6; b++) {
                is("table(" + a + ", " + b + ")", r.table(a, b), before);
                isTable(r, a, b);
                before = 10 * a + b;
            }
        }
    }

    @Says(promise = 2, words = "BAD.")
    static void tableBelow1IsBad() {
        refused("a 0", r -> r.table(0, 1), BAD);
        refused("b 0", r -> r.table(1, 0), BAD);
        refused("a -1", r -> r.table(-1, 6), BAD);
        refused("b -1", r -> r.table(6, -1), BAD);
        refused("a least", r -> r.table(LEAST, 2), BAD);
        refused("b least", r -> r.table(2, LEAST), BAD);
    }

    @Says(promise = 2, words = "BAD.")
    static void tableAbove6IsBad() {
        refused("a 7", r -> r.table(7, 6), BAD);
        refused("b 7", r -> r.table(6, 7), BAD);
        refused("a most", r -> r.table(MOST, 2), BAD);
        refused("b most", r -> r.table(2, MOST), BAD);
        refused("both", r -> r.table(7, 0), BAD);
    }

    @Says(promise = 3, words = {"`int place(int x, int y)`: AT becomes x, y: its SORT.",
        "A PLACE: two whole numbers x, y (-999 .. 999 each)."})
    static void placeTakesTheFarthest() {
        EndlessRoots r = new EndlessRoots();
        int[][] rows = {{999, 999, 2}, {-999, -999, 2}, {999, -999, 0}, {-999, 999, 0}, {999, 998, 1}, {-998, -999, 1},
            {0, 999, 0}, {-999, 0, 0}, {0, 0, 0}};
        for (int[] n : rows) {
            is("place(" + n[0] + ", " + n[1] + ")", r.place(n[0], n[1]), n[2]);
            isAt(r, n[0], n[1]);
        }
    }

    @Says(promise = 3, words = "AT becomes x, y: its SORT.")
    static void placeAnswersTheSortByTheTableAsItIs() {
        EndlessRoots r = with(1, 1);
        is("by 1 1", r.place(1, 1), 1);
        r.table(1, 4);
        is("by 1 4", r.place(1, 2), 2);
        r.table(1, 2);
        is("by 1 2", r.place(2, 2), 0);
    }

    @Says(promise = 3, words = {"BAD.", "A PLACE: two whole numbers x, y (-999 .. 999 each)."})
    static void placeBeyondIsBad() {
        int[][] bad = {{1000, 0}, {-1000, 0}, {0, 1000}, {0, -1000}, {1000, -1000}, {LEAST, 0}, {0, LEAST}, {MOST, 0},
            {0, MOST}, {65536, 1}};
        for (int[] n : bad) {
            refused("place(" + n[0] + ", " + n[1] + ")", r -> r.place(n[0], n[1]), BAD);
        }
    }

    @Says(promise = 4, words = {"`int carry(int i)`: AT is carried by a REFLECTION: its HEIGHT, and 5000.",
        "REFLECTION 0 carries x, y to a y - x, y; REFLECTION 1 to x, b x - y."})
    static void carryByEachReflection() {
        EndlessRoots r = with(3, 5);
        r.place(4, 7);
        is("by 0", r.carry(0), 5000 + 17 + 7);
        isAt(r, 17, 7);
        is("by 1", r.carry(1), 5000 + 17 + 78);
        isAt(r, 17, 78);
    }

    @Says(promise = 4, words = {"AT is carried by a REFLECTION: its HEIGHT, and 5000.",
        "HEIGHT of a PLACE: x and y, together."})
    static void carryToTheLeastAndTheMostHeight() {
        EndlessRoots r = new EndlessRoots();
        r.place(999, 999);
        is("most", r.carry(0), 5000 + 1998);
        r.place(-999, -999);
        is("least", r.carry(1), 5000 - 1998);
        r.place(0, 0);
        is("0", r.carry(0), 5000);
    }

    @Says(promise = 4, words = "NONE: i;")
    static void carryByNoReflectionIsNone() {
        refused("below", r -> r.carry(-1), NONE);
        refused("above", r -> r.carry(2), NONE);
        refused("least", r -> r.carry(LEAST), NONE);
        refused("most", r -> r.carry(MOST), NONE);
    }

    @Says(promise = 4, words = "STATE: it would leave.")
    static void carryToTheVeryEdgeIsDone() {
        EndlessRoots r = with(2, 2);
        r.place(-1, 499);
        is("x to 999", r.carry(0), 5000 + 999 + 499);
        r.place(1, -499);
        is("x to -999", r.carry(0), 5000 - 999 - 499);
        r.place(499, -1);
        is("y to 999", r.carry(1), 5000 + 499 + 999);
        r.place(-499, 1);
        is("y to -999", r.carry(1), 5000 - 499 - 999);
        isAt(r, -499, -999);
    }

    private static EndlessRoots at(int a, int b, int x, int y) {
        EndlessRoots r = withSomeOfAll();
        r.table(a, b);
        r.place(x, y);
        return r;
    }

    @Says(promise = 4, words = "STATE: it would leave.")
    static void carryBeyondTheEdgeIsState() {
        refused("x to 1000", () -> at(2, 2, 0, 500), r -> r.carry(0), STATE);
        refused("x to -1000", () -> at(2, 2, 0, -500), r -> r.carry(0), STATE);
        refused("y to 1000", () -> at(2, 2, 500, 0), r -> r.carry(1), STATE);
        refused("y to -1000", () -> at(2, 2, -500, 0), r -> r.carry(1), STATE);
        refused("x farthest", () -> at(6, 6, -999, 999), r -> r.carry(0), STATE);
        refused("y farthest", () -> at(6, 6, -999, 999), r -> r.carry(1), STATE);
    }

    @Says(promise = 4, words = {"NONE: i; STATE: it would leave.", "the first that a call's words name."})
    static void carryNamesNoneAheadOfState() {
        refused("by 2 from where all leave", () -> at(6, 6, -999, 999), r -> r.carry(2), NONE);
    }

    @Says(promise = 5, words = {"`int note()`: AT comes to NOTES: how many there are.",
        "NOTES: PLACES noted from AT (8 at most; none at first)."})
    static void noteTakesEight() {
        EndlessRoots r = new EndlessRoots();
        is("none at first", r.told(6), 0);
        for (int k = 1; k <= 8; k++) {
            r.place(k, -k);
            is("note " + k, r.note(), k);
        }
        for (int k = 0; k < 8; k++) {
            is("x of note " + k, r.noted(k, 0), 1001 + k);
            is("y of note " + k, r.noted(k, 1), 999 - k);
        }
    }

    @Says(promise = 5, words = "STATE: it is there;")
    static void noteOfWhatIsThereIsState() {
        refused("at once", () -> noted(3), r -> r.note(), STATE);
        refused("the first of three", () -> backAt(3, 1), r -> r.note(), STATE);
        refused("by another table", () -> turned(noted(2)), r -> r.note(), STATE);
    }

    private static EndlessRoots noted(int many) {
        EndlessRoots r = new EndlessRoots();
        noteSome(r, many);
        return r;
    }

    private static EndlessRoots backAt(int many, int k) {
        EndlessRoots r = noted(many);
        r.place(k, 10 * k);
        return r;
    }

    private static EndlessRoots turned(EndlessRoots r) {
        r.table(5, 6);
        return r;
    }

    @Says(promise = 5, words = "STATE: it is there;")
    static void noteOfAnotherPlaceIsDone() {
        EndlessRoots r = new EndlessRoots();
        int[][] places = {{3, 5}, {5, 3}, {-3, -5}, {3, -5}, {3, 0}, {0, 5}, {0, 0}};
        for (int k = 0; k < places.length; k++) {
            r.place(places[k][0], places[k][1]);
            is("place " + k, r.note(), k + 1);
        }
    }

    @Says(promise = 5, words = "FULL: 8.")
    static void theNinthNoteIsFull() {
        refused("the ninth", () -> backAt(8, 9), r -> r.note(), FULL);
        EndlessRoots r = backAt(7, 9);
        is("the eighth is not", r.note(), 8);
    }

    @Says(promise = 5, words = {"STATE: it is there; FULL: 8.", "the first that a call's words name."})
    static void noteNamesStateAheadOfFull() {
        refused("the last of eight", () -> noted(8), r -> r.note(), STATE);
        refused("the first of eight", () -> backAt(8, 1), r -> r.note(), STATE);
    }

    @Says(promise = 6, words = "`int wipe()`: There are no NOTES any more: how many there were.")
    static void wipeOfNoneIs0() {
        EndlessRoots r = new EndlessRoots();
        is("none", r.wipe(), 0);
        is("none again", r.wipe(), 0);
        refused("of none changes nothing", EndlessRoots::new, EndlessRoots::wipe, 0);
    }

    @Says(promise = 6, words = "There are no NOTES any more: how many there were.")
    static void wipeOfEightLeavesRoomForEight() {
        EndlessRoots r = noted(8);
        is("eight", r.wipe(), 8);
        is("none are left", r.told(6), 0);
        is("not the first", r.noted(0, 0), NONE);
        isAt(r, 8, 80);
        is("what was there can come anew", r.note(), 1);
        is("as the first", r.noted(0, 0), 1008);
        is("one", r.wipe(), 1);
        noteSome(r, 8);
        is("eight anew", r.told(6), 8);
    }
}
