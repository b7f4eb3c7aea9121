/** Promises 7 and 8 at their edges: THE TEXT, its CLAUSES, the FAULT, what is refused. */
public final class EdgesTextTest extends Edges {
    private static final String NOTE_11 = "note;".repeat(11);

    public static void main(String[] args) throws IllegalAccessException {
        run(EdgesTextTest.class);
    }

    /** A new object each, so that one text's end is not the next one's beginning. */
    private static void answers(String text, int want) {
        is("'" + text + "'", read(new EndlessRoots(), text), want);
    }

    private static void fault(String text, int place) {
        answers(text, -10 - place);
    }

    private static EndlessRoots fed(String text) {
        EndlessRoots r = withSomeOfAll();
        r.read();
        feed(r, text);
        return r;
    }

    @Says(promise = 7, words = "`int feed(int sign)`: A sign (0 .. 127) comes behind THE TEXT's: how many it has.")
    static void feedTakesTheLeastAndTheMost() {
        EndlessRoots r = new EndlessRoots();
        is("0", r.feed(0), 1);
        is("127", r.feed(127), 2);
        is("how many", r.count(3), 2);
    }

    @Says(promise = 7, words = "BAD;")
    static void feedBelow0OrAbove127IsBad() {
        int[] bad = {-1, 128, 256 + 'n', -128, LEAST, MOST, 65536 + 'n'};
        for (int sign : bad) {
            refused("feed(" + sign + ")", r -> r.feed(sign), BAD);
        }
    }

    @Says(promise = 7, words = {"BAD; FULL.", "A set-up is read from THE TEXT (bytes, 100 at most):"})
    static void the100thSignComesThe101stIsFull() {
        EndlessRoots r = new EndlessRoots();
        for (int k = 1; k <= 100; k++) {
            is("sign " + k, r.feed('x'), k);
        }
        is("sign 101", r.feed('x'), FULL);
        is("how many", r.count(3), 100);
        String ninetyNine = "at -999 -999;".repeat(7) + "note;not";
        refused("behind a hundred", () -> fed(ninetyNine + "e"), other -> other.feed(';'), FULL);
        is("the hundredth is read", read(fed(ninetyNine), "e"), 8);
    }

    @Says(promise = 7, words = {"BAD; FULL.", "the first that a call's words name."})
    static void feedNamesBadAheadOfFull() {
        refused("128 behind a hundred", () -> fed("x".repeat(100)), r -> r.feed(128), BAD);
        refused("-1 behind a hundred", () -> fed("x".repeat(100)), r -> r.feed(-1), BAD);
    }

    @Says(promise = 8, words = {"`int read()`: THE TEXT, which is empty then (by a FAULT, too), is a set-up:"})
    static void theTextIsEmptyThen() {
        EndlessRoots r = new EndlessRoots();
        is("done", read(r, "note"), 1);
        is("no bytes", r.count(3), 0);
        is("none to be done again", r.read(), -10);
        is("from the first on", r.feed('w'), 1);
    }

    @Says(promise = 8, words = "(by a FAULT, too)")
    static void theTextIsEmptyByAFaultToo() {
        EndlessRoots r = new EndlessRoots();
        is("a FAULT", read(r, "nope"), -12);
        is("no bytes", r.count(3), 0);
        is("an end too early", read(r, "not"), -13);
        is("nothing of it is left", read(r, "e"), -10);
        for (int k = 1; k <= 100; k++) {
            is("a hundred again", r.feed('x'), k);
        }
    }

    @Says(promise = 8, words = "how many CLAUSES were done; -10 less the FAULT.")
    static void howManyWereDone() {
        answers("note", 1);
        answers("wipe;wipe", 2);
        answers("table 9 9", 0);
        answers("table 9 9;note;table 0 0;note;wipe", 2);
        fault("!", 0);
        fault("note;!", 5);
    }

    @Says(promise = 8, words = "CLAUSES, 1 to 12, with ; between:")
    static void noClauseAtAllIsAFault() {
        fault("", 0);
        fault(";", 0);
        fault("note;", 5);
        fault(";note", 0);
        fault("note;;note", 5);
    }

    @Says(promise = 8, words = "CLAUSES, 1 to 12, with ; between:")
    static void twelveClausesAreDoneTheThirteenthIsAFault() {
        answers("wipe" + ";wipe".repeat(11), 12);
        answers(NOTE_11 + "note", 1);
        fault(NOTE_11 + "note;", 59);
        fault(NOTE_11 + "note;note", 59);
        fault(NOTE_11, 55);
        fault("note,note", 4);
        fault("note:note", 4);
        fault("note<note", 4);
    }

    @Says(promise = 8, words = "WORDS: table DIGIT DIGIT (a, b; as table());")
    static void tableOfAText() {
        EndlessRoots r = new EndlessRoots();
        is("least", read(r, "table 1 6"), 1);
        isTable(r, 1, 6);
        is("most", read(r, "table 6 1"), 1);
        isTable(r, 6, 1);
        String[] refusedOnes = {"table 0 1", "table 1 0", "table 7 1", "table 1 7", "table 9 9", "table 0 0"};
        for (String text : refusedOnes) {
            refused("'" + text + "'", () -> fed(""), other -> read(other, text), 0);
        }
    }

    @Says(promise = 8, words = "WORDS: table DIGIT DIGIT (a, b; as table());")
    static void aDigitIsOneOf0To9() {
        fault("table / 1", 6);
        fault("table : 1", 6);
        fault("table 1 /", 8);
        fault("table 1 :", 8);
        fault("table -1 1", 6);
        fault("table 11 1", 7);
        fault("table 1 11", 9);
        fault("table  1", 6);
        fault("table 1", 7);
    }

    @Says(promise = 8, words = {"at NUMBER NUMBER (as place());", "NUMBER: perhaps - ahead, 1 to 3 digits."})
    static void aNumberHasOneToThreeDigits() {
        int[][] rows = {{0, 9}, {12, 34}, {999, 100}};
        for (int[] n : rows) {
            EndlessRoots r = new EndlessRoots();
            is("at", read(r, "at " + n[0] + " " + n[1]), 1);
            isAt(r, n[0], n[1]);
        }
        EndlessRoots r = new EndlessRoots();
        is("noughts ahead", read(r, "at 007 050"), 1);
        isAt(r, 7, 50);
        fault("at  1", 3);
        fault("at 1234 1", 6);
        fault("at 0001 1", 6);
        fault("at 1 1234", 8);
        fault("at 1 ", 5);
        fault("at /", 3);
        fault("at :", 3);
        fault("at 1/", 4);
        fault("at 1 1:", 6);
    }

    @Says(promise = 8, words = "NUMBER: perhaps - ahead, 1 to 3 digits.")
    static void aNumberMayHaveOneMinusAhead() {
        EndlessRoots r = new EndlessRoots();
        is("farthest", read(r, "at -999 -999"), 1);
        isAt(r, -999, -999);
        is("less 0", read(r, "at -0 -00"), 1);
        isAt(r, 0, 0);
        is("the second alone", read(r, "at 5 -001"), 1);
        isAt(r, 5, -1);
        fault("at -", 4);
        fault("at - 1", 4);
        fault("at --1", 4);
        fault("at +1", 3);
        fault("at 1- 1", 4);
        fault("at -1000 1", 7);
        fault("at 1 -", 6);
        fault("at 1 -1-", 7);
    }

    @Says(promise = 8, words = "word and 1 to 20 signs 0, 1 (AT is carried by these, from the left on;")
    static void aWordHasOneTo20Signs() {
        fault("word ", 5);
        fault("word ;", 5);
        answers("word 0", 1);
        answers("word 1", 1);
        answers("word " + "0".repeat(20), 1);
        answers("word " + "11".repeat(10), 1);
        fault("word " + "0".repeat(21), 25);
        fault("word " + "1".repeat(20) + "0", 25);
        answers("word " + "01".repeat(10) + ";note", 2);
        fault("word 2", 5);
        fault("word /", 5);
        fault("word 012", 7);
        fault("word -1", 5);
        fault("word 0 1", 6);
    }

    @Says(promise = 8, words = {"(AT is carried by these, from the left on;",
        "A WORD: REFLECTIONS one behind the other, told by signs 0, 1."})
    static void aWordGoesFromTheLeftOn() {
        EndlessRoots r = with(2, 3);
        is("01", read(r, "at 1 1;word 01"), 2);
        isAt(r, 1, 2);
        is("10", read(r, "at 1 1;word 10"), 2);
        isAt(r, 3, 2);
        is("twenty", read(r, "word " + "0".repeat(19) + "1"), 1);
        isAt(r, 1, 1);
    }

    @Says(promise = 8, words = "refused, if it would leave, be it on the way);")
    static void aWordThatWouldLeaveIsRefused() {
        refused("x to 1000 at its end", () -> near(400, 100), r -> read(r, "word 10"), 0);
        refused("x alone", () -> near(0, 500), r -> read(r, "word 0"), 0);
        refused("y alone", () -> near(-500, 0), r -> read(r, "word 1"), 0);
        refused("on the way, though it would come back", () -> near(0, 999), r -> read(r, "word 00"), 0);
        refused("on the way, behind some", () -> near(2, 450), r -> read(r, "word 00010011"), 0);
    }

    private static EndlessRoots near(int x, int y) {
        EndlessRoots r = fed("");
        r.table(2, 2);
        r.place(x, y);
        return r;
    }

    @Says(promise = 8, words = "refused, if it would leave, be it on the way);")
    static void aWordToTheVeryEdgeIsDone() {
        EndlessRoots r = near(-1, 499);
        is("to 999", read(r, "word 0"), 1);
        isAt(r, 999, 499);
        is("to 999 and back", read(r, "word 000"), 1);
        isAt(r, -1, 499);
        r.place(-499, 1);
        is("to -999", read(r, "word 1"), 1);
        isAt(r, -499, -999);
    }

    @Says(promise = 8, words = "note (as note());")
    static void noteOfATextIsRefusedIfItIsThere() {
        answers("note;note", 1);
        answers("note;word 0;note;word 0;note", 4);
        refused("there", () -> near(5, -7), r -> read(r, "note"), 0);
    }

    @Says(promise = 8, words = "note (as note());")
    static void theNinthNoteOfATextIsRefused() {
        EndlessRoots r = new EndlessRoots();
        noteSome(r, 7);
        r.place(0, 0);
        is("the eighth", read(r, "note"), 1);
        refused("the ninth", EdgesTextTest::withEightAtAnother, other -> read(other, "note"), 0);
    }

    private static EndlessRoots withEightAtAnother() {
        EndlessRoots r = new EndlessRoots();
        noteSome(r, 8);
        r.place(0, 0);
        return r;
    }

    @Says(promise = 8, words = "wipe (there are no NOTES any more).")
    static void wipeOfATextIsDoneWithNotesOrNone() {
        answers("wipe", 1);
        EndlessRoots r = withEightAtAnother();
        is("eight", read(r, "wipe"), 1);
        is("none are left", r.told(6), 0);
        is("room for one more", read(withEightAtAnother(), "wipe;note"), 2);
    }

    @Says(promise = 8, words = "One blank stands ahead of each DIGIT, NUMBER, of the signs.")
    static void oneBlankStandsAhead() {
        String[][] rows = {{"table1 1", "5"}, {"table 11", "7"}, {"table  1 1", "6"}, {"table 1  1", "8"}, {"at1 1", "2"},
            {"at  1 1", "3"}, {"at 1  1", "5"}, {"at 1,1", "4"}, {"word0", "4"}, {"word  0", "5"}, {"word\t0", "4"},
            {"table\0001 1", "5"}, {"at\n1 1", "2"}};
        for (String[] row : rows) {
            fault(row[0], Integer.parseInt(row[1]));
        }
    }

    @Says(promise = 8, words = "Nothing else stands between.")
    static void nothingElseStandsBetween() {
        String[][] rows = {{" note", "0"}, {"note ", "4"}, {"note ;note", "4"}, {"note; note", "5"}, {"note\n", "4"},
            {"\nnote", "0"}, {"table 1 1 ", "9"}, {"at 1 1 ", "6"}, {"word 0 ", "6"}, {"wipe 0", "4"}, {"wipe\r;note", "4"},
            {"note\0", "4"}, {"note\177", "4"}, {"notenote", "4"}, {"table 1 1at 1 1", "9"}, {"word 0note", "6"}};
        for (String[] row : rows) {
            fault(row[0], Integer.parseInt(row[1]));
        }
    }

    @Says(promise = 8, words = "The FAULT: the place of the first byte with which none begins so")
    static void theFaultIsTheFirstByteThatDoesNotFit() {
        String text = "table 1 2;at -12 345;word 0110;note;wipe";
        for (int k = 0; k < text.length(); k++) {
            fault(text.substring(0, k) + "!" + text.substring(k + 1), k);
            fault(text.substring(0, k) + "!", k);
        }
        fault("not!;wip!", 3);
    }

    @Says(promise = 8, words = "The FAULT: the place of the first byte with which none begins so")
    static void theFaultStandsBehindWhatTwoWordsShare() {
        String[][] rows = {{"w!", "1"}, {"we", "1"}, {"wo!", "2"}, {"wope", "2"}, {"wi!", "2"}, {"wird", "2"}, {"wor!", "3"},
            {"wip!", "3"}, {"ta!", "2"}, {"tt", "1"}, {"ab", "1"}, {"nt", "1"}, {"b", "0"}, {"Table", "0"}, {"NOTE", "0"},
            {"nOte", "1"}, {"wiPe", "2"}};
        for (String[] row : rows) {
            fault(row[0], Integer.parseInt(row[1]));
        }
    }

    @Says(promise = 8, words = "(the end of THE TEXT, if it ends too early).")
    static void theFaultIsTheEndIfItEndsTooEarly() {
        String text = "table 1 2;at -12 34;word 01;note;wipe";
        // the lengths at which it could end: behind each CLAUSE, a NUMBER's first digit, a WORD's first sign
        String whole = " 9 18 19 26 27 32 37 ";
        for (int k = 0; k <= text.length(); k++) {
            boolean ends = whole.contains(" " + k + " ");
            if (!ends) {
                fault(text.substring(0, k), k);
            } else {
                int clauses = text.substring(0, k).split(";").length;
                answers(text.substring(0, k), clauses);
            }
        }
        fault("at -999 -999;".repeat(7) + "wipe;word", 100);
    }

    @Says(promise = 8, words = "Without it they are done, one behind the other;")
    static void withAFaultNoneIsDone() {
        String[] texts = {"table 5 5;at 7 7;note;x", "wipe;word 0;", "wipe ", "at 9 9;note;tabl", NOTE_11 + "wipe;"};
        for (String text : texts) {
            int place = text.endsWith("x") ? text.length() - 1 : text.endsWith("wipe ") ? 4 : text.length();
            int at = text.startsWith(NOTE_11) ? 59 : place;
            refused("'" + text + "'", () -> fed(""), r -> read(r, text), -10 - at);
        }
    }

    @Says(promise = 8, words = "Without it they are done, one behind the other;")
    static void theyAreDoneOneBehindTheOther() {
        EndlessRoots r = new EndlessRoots();
        is("at, table, word", read(r, "at 1 1;table 4 1;word 0;note;table 1 4;word 0;note"), 7);
        is("by 4 1", r.noted(0, 0), 1003);
        is("by 1 4", r.noted(1, 0), 1000 - 2);
        isTable(r, 1, 4);
        is("wipe behind note", read(r, "at 5 5;note;wipe"), 3);
        is("none", r.told(6), 0);
        is("note behind wipe", read(r, "wipe;note"), 2);
        is("one", r.told(6), 1);
    }

    @Says(promise = 8, words = "those that would be refused aren't.")
    static void whatIsRefusedDoesNotHoldUpTheRest() {
        EndlessRoots r = new EndlessRoots();
        is("done", read(r, "table 7 7;at 3 999;word 0;note;note;table 1 1;word 1"), 4);
        isTable(r, 1, 1);
        isAt(r, 3, 3 - 999);
        is("noted", r.noted(0, 1), 1999);
        is("one note", r.told(6), 1);
    }
}
