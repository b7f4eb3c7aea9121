/** Promise by promise: ordinary numbers, the edges that the document names, wrong numbers, which refusal comes first. */
public final class PromisesTest {
    private static final int NONE = -1, BAD = -2, STATE = -3, FULL = -4;
    private static final int NOTHING = -11, CAST = -12, PLACE = -13, SIZE = -14;
    private static final long NO = Long.MIN_VALUE;
    private static final int LEAST = Integer.MIN_VALUE, MOST = Integer.MAX_VALUE;
    private static final Due due = new Due("PromisesTest");

    public static void main(String[] args) {
        tableAndPlace();
        texts();
        whatIsTold();
        countsAndStrings();
        seenAndOdds();
        eventsAndBooks();
        imageAndTapes();
        due.close();
    }

    private static void tableAndPlace() {
        promise1();
        promise2();
        promise3();
        promise4();
        promise5();
        promise6();
    }

    private static void texts() {
        promise7();
        promise8();
        promise8Faults();
        promise8Limits();
        promise8Refusals();
    }

    private static void whatIsTold() {
        promise9();
        promise10();
        promise11();
        promise12();
        promise13();
        promise14();
        promise15();
    }

    private static void countsAndStrings() {
        promise16();
        promise17();
        promise18();
        promise19();
        promise20();
        promise21();
    }

    private static void seenAndOdds() {
        promise22();
        promise23();
        promise24();
        promise25();
    }

    private static void eventsAndBooks() {
        promise26();
        promise27();
        promise28();
        promise29();
    }

    private static void imageAndTapes() {
        promise30();
        promise31And32();
        promise33();
        promise34();
        promise35();
        promise36();
        promise37();
    }

    private static EndlessRoots with(int a, int b) {
        EndlessRoots r = new EndlessRoots();
        r.table(a, b);
        return r;
    }

    private static void feed(EndlessRoots r, String text) {
        for (int k = 0; k < text.length(); k++) {
            r.feed(text.charAt(k));
        }
    }

    private static void isAt(String where, EndlessRoots r, int x, int y) {
        due.is(where + ": x", r.told(3), x + 1000);
        due.is(where + ": y", r.told(4), y + 1000);
    }

    private static void promise1() {
        EndlessRoots r = new EndlessRoots();
        due.is("1: a", r.told(0), 2);
        due.is("1: b", r.told(1), 2);
        isAt("1", r, 1, 0);
        due.is("1: notes", r.told(6), 0);
        for (int what = 0; what <= 3; what++) {
            due.is("1: count", r.count(what), 0);
        }
        due.is("1: no image", r.undo(), STATE);
        for (int tape = 0; tape <= 5; tape++) {
            due.is("1: tapes hold nothing", r.item(tape, 0, 1), NOTHING);
        }
    }

    private static void promise2() {
        EndlessRoots r = new EndlessRoots();
        due.is("2: first", r.table(1, 6), 22);
        due.is("2: then", r.table(6, 1), 16);
        int[][] bad = {{0, 1}, {7, 1}, {1, 0}, {1, 7}, {-1, 2}, {LEAST, 2}, {2, MOST}};
        for (int[] n : bad) {
            due.is("2: bad", r.table(n[0], n[1]), BAD);
        }
        due.is("2: a stays", r.told(0), 6);
        due.is("2: b stays", r.told(1), 1);
        r.place(5, -7);
        due.is("2: again", r.table(3, 4), 61);
        isAt("2", r, 5, -7);
    }

    private static void promise3() {
        EndlessRoots r = new EndlessRoots();
        due.is("3: real", r.place(2, 3), 1);
        due.is("3: other", r.place(-999, -999), 2);
        isAt("3", r, -999, -999);
        due.is("3: none", r.place(999, -999), 0);
        int[][] bad = {{1000, 0}, {-1000, 0}, {0, 1000}, {0, -1000}, {LEAST, 0}, {0, MOST}};
        for (int[] n : bad) {
            due.is("3: bad", r.place(n[0], n[1]), BAD);
        }
        isAt("3: bad changes nothing", r, 999, -999);
    }

    private static void promise4() {
        EndlessRoots r = with(2, 3);
        r.place(5, 1);
        due.is("4: by 0", r.carry(0), 5000 - 3 + 1);
        isAt("4: by 0", r, -3, 1);
        due.is("4: by 1", r.carry(1), 5000 - 3 - 10);
        isAt("4: by 1", r, -3, -10);
        due.is("4: no such", r.carry(2), NONE);
        due.is("4: no such", r.carry(-1), NONE);
        due.is("4: no such", r.carry(LEAST), NONE);
        isAt("4: changes nothing", r, -3, -10);
        r.place(1, 500);
        due.is("4: to 999", r.carry(0), 5000 + 999 + 500);
        r.place(0, 500);
        due.is("4: to 1000", r.carry(0), STATE);
        isAt("4: stays", r, 0, 500);
        r.place(-333, 0);
        due.is("4: to -999", r.carry(1), 5000 - 333 - 999);
        r.place(-333, 1);
        due.is("4: to -1000", r.carry(1), STATE);
    }

    private static void promise5() {
        EndlessRoots r = new EndlessRoots();
        for (int k = 1; k <= 8; k++) {
            r.place(k, -k);
            due.is("5: note", r.note(), k);
            due.is("5: it is there", r.note(), STATE);
        }
        r.place(1, -1);
        due.is("5: there comes ahead of full", r.note(), STATE);
        r.place(-1, 1);
        due.is("5: full", r.note(), FULL);
        due.is("5: how many", r.told(6), 8);
        r.wipe();
        due.is("5: after wipe", r.note(), 1);
        r.place(-1, 2);
        due.is("5: the same x alone is another", r.note(), 2);
        r.place(2, 1);
        due.is("5: the same y alone is another", r.note(), 3);
    }

    private static void promise6() {
        EndlessRoots r = new EndlessRoots();
        due.is("6: none", r.wipe(), 0);
        r.note();
        r.place(3, 3);
        r.note();
        due.is("6: two", r.wipe(), 2);
        due.is("6: none are left", r.told(6), 0);
        due.is("6: none is there", r.noted(0, 0), NONE);
        isAt("6", r, 3, 3);
    }

    private static void promise7() {
        EndlessRoots r = new EndlessRoots();
        due.is("7: least", r.feed(0), 1);
        due.is("7: most", r.feed(127), 2);
        due.is("7: bad", r.feed(-1), BAD);
        due.is("7: bad", r.feed(128), BAD);
        for (int k = 3; k <= 100; k++) {
            due.is("7: feed", r.feed(';'), k);
        }
        due.is("7: full", r.feed(65), FULL);
        due.is("7: bad comes ahead of full", r.feed(128), BAD);
        due.is("7: how many", r.count(3), 100);
    }

    private static int readOf(EndlessRoots r, String text) {
        feed(r, text);
        return r.read();
    }

    private static void promise8() {
        EndlessRoots r = new EndlessRoots();
        due.is("8: all", readOf(r, "table 2 3;at 5 1;word 01;note;at -7 012;note"), 6);
        due.is("8: a", r.told(0), 2);
        due.is("8: b", r.told(1), 3);
        due.is("8: notes", r.told(6), 2);
        due.is("8: note 0 x", r.noted(0, 0), 1000 - 3);
        due.is("8: note 0 y", r.noted(0, 1), 1000 - 10);
        isAt("8", r, -7, 12);
        due.is("8: the text is empty", r.count(3), 0);
        due.is("8: wipe", readOf(r, "wipe"), 1);
        due.is("8: wiped", r.told(6), 0);
        due.is("8: wipe of nothing is done too", readOf(r, "wipe;wipe"), 2);
        due.is("8: one digit each, and 0 with -", readOf(r, "at -0 0"), 1);
        isAt("8", r, 0, 0);
        due.is("8: edges", readOf(r, "at 999 -999"), 1);
        isAt("8", r, 999, -999);
    }

    private static void promise8Faults() {
        Object[][] rows = {
            {"", 0}, {"x", 0}, {" note", 0}, {"Note", 0}, {";", 0}, {"t", 1}, {"tabel", 3}, {"ta", 2}, {"table", 5},
            {"table1", 5}, {"table ", 6}, {"table  1", 6}, {"table x", 6}, {"table -1 1", 6}, {"table 1", 7},
            {"table 12", 7}, {"table 1 ", 8}, {"table 1 2 ", 9}, {"table 1 23", 9}, {"table 1 2;", 10}, {"at", 2},
            {"at;", 2}, {"at -", 4}, {"at --", 4}, {"at - 1", 4}, {"at 1", 4}, {"at 12;", 5}, {"at 1234", 6},
            {"at 123", 6}, {"at -123 -", 9}, {"at 1 2-", 6}, {"at 1 2345", 8}, {"at 1 +2", 5}, {"w", 1}, {"wx", 1},
            {"wo", 2}, {"wi", 2}, {"wope", 2}, {"wird", 2}, {"word", 4}, {"word0", 4}, {"word ", 5}, {"word 2", 5},
            {"word 012", 7}, {"word 01 ", 7}, {"word  0", 5}, {"not", 3}, {"note ", 4}, {"notes", 4}, {"note;;", 5},
            {"note; wipe", 5}, {"wipe 1", 4}, {"note;word 1;tab", 15}, {"note,wipe", 4}, {"note\n", 4}, {"\0", 0},
        };
        EndlessRoots r = new EndlessRoots();
        for (Object[] row : rows) {
            r = new EndlessRoots();
            due.is("8: the fault of '" + row[0] + "'", readOf(r, (String) row[0]), -10 - (Integer) row[1]);
            due.is("8: the text is empty by a fault, too", r.count(3), 0);
        }
        due.is("8: a fault behind does nothing ahead", readOf(r, "table 5 5;at 7 7;note;x"), -10 - 22);
        due.is("8: table is as it was", r.table(2, 2), 22);
        isAt("8: as it was", r, 1, 0);
        due.is("8: no notes", r.told(6), 0);
    }

    private static void promise8Limits() {
        EndlessRoots r = new EndlessRoots();
        String twelve = "wipe" + ";wipe".repeat(11);
        due.is("8: twelve", readOf(r, twelve), 12);
        due.is("8: thirteen", readOf(r, twelve + ";wipe"), -10 - twelve.length());
        due.is("8: twelve and ;", readOf(r, twelve + ";"), -10 - twelve.length());
        r.place(0, 0);
        due.is("8: twenty signs", readOf(r, "word " + "0".repeat(20)), 1);
        due.is("8: twenty-one signs", readOf(r, "word " + "1".repeat(21)), -10 - 25);
        String hundred = "at -999 -999;".repeat(7) + "note;wipe";
        due.is("8: a hundred bytes", hundred.length(), 100);
        r = new EndlessRoots();
        due.is("8: a hundred bytes", readOf(r, hundred), 9);
        due.is("8: the last of a hundred", readOf(r, "at -999 -999;".repeat(7) + "note;not "), -10 - 99);
        r = new EndlessRoots();
        due.is("8: ends too early at 100", readOf(r, "at -999 -999;".repeat(7) + "wipe;word"), -10 - 100);
    }

    private static void promise8Refusals() {
        EndlessRoots r = new EndlessRoots();
        due.is("8: tables refused", readOf(r, "table 7 1;table 1 7;table 0 1;table 1 0;table 9 9"), 0);
        due.is("8: table is as it was", r.table(6, 6), 22);
        due.is("8: a note that is there is refused", readOf(r, "note;note;wipe;note"), 3);
        due.is("8: a word that leaves at its end", readOf(r, "at 1 985;word 0;at 169 29;word 10"), 2);
        isAt("8: a refused word carries nothing", r, 169, 29);
        due.is("8: a word that leaves on the way", readOf(r, "at 0 999;word 00"), 1);
        isAt("8: on the way", r, 0, 999);
        r.wipe();
        for (int k = 1; k <= 8; k++) {
            r.place(k, k);
            r.note();
        }
        due.is("8: a ninth note is refused", readOf(r, "at 9 9;note"), 1);
        due.is("8: notes", r.told(6), 8);
        due.is("8: it goes by the table of the clauses ahead", readOf(r, "table 1 1;at 0 999;word 00"), 3);
        isAt("8: by the table ahead", r, 0, 999);
    }

    private static void promise9() {
        EndlessRoots r = with(3, 4);
        r.place(-5, 999);
        r.note();
        int[] want = {3, 4, 2, 995, 1999, 0, 1};
        for (int what = 0; what <= 6; what++) {
            due.is("9: told(" + what + ")", r.told(what), want[what]);
        }
        due.is("9", r.told(7), NONE);
        due.is("9", r.told(-1), NONE);
        int[][] kinds = {{1, 1, 0}, {1, 3, 0}, {3, 1, 0}, {1, 4, 1}, {4, 1, 1}, {2, 2, 1}, {1, 5, 2}, {2, 3, 2}, {6, 6, 2}};
        for (int[] k : kinds) {
            r.table(k[0], k[1]);
            due.is("9: kind", r.told(2), k[2]);
        }
    }

    private static void promise10() {
        EndlessRoots r = new EndlessRoots();
        r.place(2, 3);
        r.note();
        r.place(-999, -7);
        r.note();
        due.is("10: x", r.noted(0, 0), 1002);
        due.is("10: y", r.noted(0, 1), 1003);
        due.is("10: sort", r.noted(0, 2), 1);
        due.is("10: x", r.noted(1, 0), 1);
        due.is("10: y", r.noted(1, 1), 993);
        r.table(3, 3);
        due.is("10: sort by the table as it is now", r.noted(0, 2), 2);
        r.table(1, 1);
        due.is("10: sort by the table as it is now", r.noted(0, 2), 0);
        int[][] none = {{2, 0}, {-1, 0}, {0, 3}, {0, -1}, {MOST, 0}, {0, LEAST}};
        for (int[] n : none) {
            due.is("10: none", r.noted(n[0], n[1]), NONE);
        }
    }

    private static void promise11() {
        EndlessRoots r = with(2, 3);
        due.is("11", r.norm(1, 0), 6);
        due.is("11", r.norm(0, 1), 4);
        due.is("11", r.norm(1, 1), 6 - 12 + 4);
        due.is("11", r.norm(-2, 5), 24 + 120 + 100);
        r.table(6, 6);
        due.is("11: far", r.norm(999, -999), (12 + 72 + 12) * 998001L);
        due.is("11: far", r.norm(-999, -999), (12 - 72 + 12) * 998001L);
        int[][] no = {{1000, 0}, {-1000, 0}, {0, 1000}, {0, -1000}, {LEAST, LEAST}, {MOST, 0}};
        for (int[] n : no) {
            due.is("11: no", r.norm(n[0], n[1]), NO);
        }
    }

    private static void promise12() {
        EndlessRoots r = with(2, 3);
        due.is("12", r.product(1, 0, 0, 1), -6);
        due.is("12", r.product(1, 0, 1, 0), 6);
        due.is("12", r.product(0, 1, 0, 1), 4);
        due.is("12", r.product(2, 3, 5, 7), 2 * 3 * 10 - 6 * (14 + 15) + 4 * 21);
        r.table(6, 6);
        due.is("12: far", r.product(999, -999, -999, 999), -(12 + 72 + 12) * 998001L);
        int[][] no = {{1000, 0, 0, 0}, {0, -1000, 0, 0}, {0, 0, 1000, 0}, {0, 0, 0, -1000}, {0, 0, 0, LEAST}};
        for (int[] n : no) {
            due.is("12: no", r.product(n[0], n[1], n[2], n[3]), NO);
        }
    }

    private static void promise13() {
        EndlessRoots r = with(2, 5);
        due.is("13: 0", r.coat(0, 3, 4), 10000 + 6 - 8);
        due.is("13: 1", r.coat(1, 3, 4), 10000 + 8 - 15);
        due.is("13: far", r.coat(1, -999, 999), 10000 + 1998 + 4995);
        due.is("13: i", r.coat(2, 0, 0), NONE);
        due.is("13: i", r.coat(-1, 0, 0), NONE);
        due.is("13: i comes first", r.coat(2, 1000, 0), NONE);
        due.is("13: bad", r.coat(0, 1000, 0), BAD);
        due.is("13: bad", r.coat(1, 0, -1000), BAD);
    }

    private static void promise14() {
        EndlessRoots r = new EndlessRoots();
        int[][] rows = {
            {0, 0, 0}, {1, 0, 1}, {0, 1, 1}, {-1, 0, 1}, {0, -1, 1}, {2, 0, 0}, {0, -2, 0}, {1, 1, 2}, {-7, -7, 2},
            {1, -1, 0}, {-1, 1, 0}, {2, 3, 1}, {-3, -2, 1}, {2, 4, 0}, {999, 998, 1}, {999, 999, 2}, {999, 997, 0},
        };
        for (int[] n : rows) {
            due.is("14: sort(" + n[0] + ", " + n[1] + ")", r.sort(n[0], n[1]), n[2]);
        }
        int[][] bad = {{1000, 0}, {-1000, 0}, {0, 1000}, {0, -1000}, {LEAST, 0}, {0, LEAST}};
        for (int[] n : bad) {
            due.is("14: bad", r.sort(n[0], n[1]), BAD);
        }
        isAt("14: changes nothing", r, 1, 0);
    }

    private static void promise15() {
        EndlessRoots r = with(1, 1);
        due.is("15: by 0 if both are", r.lowered(1, 1, 0), 1000);
        due.is("15: by 0 if both are", r.lowered(1, 1, 1), 999);
        due.is("15: by 0 if both are", r.lowered(1, 1, 2), 2);
        due.is("15: to below 0", r.lowered(999, 0, 0), 1);
        due.is("15: to below 0", r.lowered(999, 0, 2), 1);
        due.is("15: nothing to lower", r.lowered(0, 0, 2), 0);
        r.table(3, 3);
        due.is("15: stays", r.lowered(2, 3, 0), 1002);
        due.is("15: stays", r.lowered(2, 3, 1), 1003);
        due.is("15: stays", r.lowered(2, 3, 2), 0);
        r.table(2, 2);
        due.is("15: long", r.lowered(999, 998, 2), 999);
        int[][] bad = {{-1, 0}, {0, -1}, {1000, 0}, {0, 1000}, {LEAST, MOST}};
        for (int[] n : bad) {
            due.is("15: bad", r.lowered(n[0], n[1], 0), BAD);
            due.is("15: bad comes first", r.lowered(n[0], n[1], 3), BAD);
        }
        due.is("15: what", r.lowered(1, 1, 3), NONE);
        due.is("15: what", r.lowered(1, 1, -1), NONE);
    }

    private static void promise16() {
        EndlessRoots r = with(1, 3);
        due.is("16: off", r.string(1, 1, 2, 0), 2);
        due.is("16: on", r.string(1, 1, 2, 1), 1);
        due.is("16: off of a root below 0", r.string(1, -1, -2, 0), 1);
        due.is("16: on of a root below 0", r.string(1, -1, -2, 1), 2);
        due.is("16: by 0", r.string(0, 1, 3, 1), 1);
        due.is("16: through a letter", r.string(1, 1, 0, 1), 3);
        r.table(6, 6);
        due.is("16: far", r.string(0, 99, 99, 1) - r.string(0, 99, 99, 0), 6 * 99 - 2 * 99);
        int[][] untold = {{0, 1, 0}, {0, -1, 0}, {1, 0, 1}, {1, 0, -1}, {0, 2, 0}, {0, 0, 0}, {1, 1, -1}};
        for (int[] n : untold) {
            due.is("16: untold", r.string(n[0], n[1], n[2], 0), STATE);
            due.is("16: untold", r.string(n[0], n[1], n[2], 1), STATE);
        }
        due.is("16: letter by the other", r.string(1, -1, 0, 0), 6);
        due.is("16: letter by the other", r.string(0, 0, -1, 1), 0);
        int[][] none = {{2, 1, 1, 0}, {-1, 1, 1, 0}, {0, 1, 1, 2}, {0, 1, 1, -1}, {0, 100, 0, 2}, {2, 100, 0, 0}};
        for (int[] n : none) {
            due.is("16: none comes first", r.string(n[0], n[1], n[2], n[3]), NONE);
        }
        int[][] bad = {{100, 1}, {-100, -1}, {1, 100}, {-1, -100}, {100, -100}, {LEAST, 0}};
        for (int[] n : bad) {
            due.is("16: bad comes ahead of state", r.string(0, n[0], n[1], 0), BAD);
        }
    }

    private static void promise17() {
        EndlessRoots r = with(3, 3);
        int[][] rows = {{1, 0, 1}, {0, 12, 0}, {1, 3, 1}, {2, 3, 2}, {3, 3, 3}, {4, 4, 6}, {6, 6, 39}, {5, 7, 27}};
        for (int[] n : rows) {
            due.is("17: counted(" + n[0] + ", " + n[1] + ")", r.counted(n[0], n[1]), n[2]);
        }
        int[][] bad = {{0, 0}, {-1, 2}, {2, -1}, {13, 0}, {0, 13}, {7, 6}, {MOST, MOST}, {LEAST, LEAST}, {13, -1}};
        for (int[] n : bad) {
            due.is("17: bad", r.counted(n[0], n[1]), BAD);
        }
        r.table(2, 2);
        due.is("17: by another table", r.counted(6, 6), 1);
        r.table(3, 3);
        due.is("17: by the former again", r.counted(6, 6), 39);
    }

    private static void fraction(EndlessRoots r, int x, int y, long above, long below) {
        due.is("18: c(" + x + ", " + y + ", 0)", r.c(x, y, 0), above);
        due.is("18: c(" + x + ", " + y + ", 1)", r.c(x, y, 1), below);
    }

    private static void promise18() {
        EndlessRoots r = new EndlessRoots();
        fraction(r, 1, 0, 1, 1);
        fraction(r, 2, 0, 1, 2);
        fraction(r, 12, 0, 1, 12);
        fraction(r, 0, 11, 1, 11);
        fraction(r, 2, 4, 1, 2);
        fraction(r, 1, 3, 0, 1);
        fraction(r, 2, 2, 3, 2);
        fraction(r, 6, 6, 2, 1);
        r.table(3, 3);
        fraction(r, 4, 4, 27, 4);
        int[][] no = {{0, 0, 0}, {13, 0, 0}, {7, 6, 1}, {-1, 1, 0}, {1, 1, 2}, {1, 1, -1}, {MOST, MOST, 0}};
        for (int[] n : no) {
            due.is("18: no", r.c(n[0], n[1], n[2]), NO);
        }
    }

    private static void promise19() {
        EndlessRoots r = with(3, 3);
        due.is("19: height 1", r.level(1, 0), 2);
        due.is("19: how many", r.level(12, 0), 5);
        due.is("19: counted", r.level(12, 1), 105);
        r.table(1, 1);
        due.is("19: none", r.level(3, 0), 0);
        due.is("19: none", r.level(3, 1), 0);
        due.is("19: h", r.level(0, 0), BAD);
        due.is("19: h", r.level(13, 1), BAD);
        due.is("19: h comes first", r.level(13, 2), BAD);
        due.is("19: what", r.level(12, 2), NONE);
        due.is("19: what", r.level(1, -1), NONE);
    }

    private static void promise20() {
        EndlessRoots r = with(1, 1);
        int[][] rows = {{0, 0, 1}, {1, 0, -1}, {0, 1, -1}, {1, 1, 0}, {1, 2, 1}, {2, 1, 1}, {2, 2, -1}, {12, 0, 0}};
        for (int[] n : rows) {
            due.is("20: made(" + n[0] + ", " + n[1] + ")", r.made(n[0], n[1]), n[2]);
        }
        r.table(3, 3);
        due.is("20: another table", r.made(4, 1), 1);
        due.is("20: another table", r.made(2, 1), 0);
        int[][] no = {{-1, 0}, {0, -1}, {13, 0}, {0, 13}, {6, 7}, {13, -1}, {MOST, 1}};
        for (int[] n : no) {
            due.is("20: no", r.made(n[0], n[1]), NO);
        }
    }

    private static void promise21() {
        EndlessRoots r = with(1, 3);
        int[][] rows = {{0, 0, 2}, {1, 0, 0}, {0, 1, 0}, {1, 4, 2}, {2, 1, 2}, {2, 6, 0}, {4, 4, 0}, {4, 6, 1}, {1, 1, 1}};
        for (int[] n : rows) {
            due.is("21: signed(" + n[0] + ", " + n[1] + ")", r.signed(n[0], n[1]), n[2]);
        }
        int[][] bad = {{-1, 0}, {0, -1}, {13, 0}, {0, 13}, {6, 7}, {13, -1}, {MOST, 1}};
        for (int[] n : bad) {
            due.is("21: bad", r.signed(n[0], n[1]), BAD);
        }
        r.table(6, 6);
        due.is("21: no word comes there", r.signed(6, 6), 1);
        due.is("21: two signs", r.signed(1, 7), 2);
        due.is("21: two signs", r.signed(7, 1), 2);
    }

    private static void promise22() {
        EndlessRoots r = new EndlessRoots();
        due.is("22", r.see(-12, 12, 0), 1);
        due.is("22", r.see(12, -12, 2), 2);
        int[][] bad = {{13, 0, 0}, {-13, 0, 0}, {0, 13, 0}, {0, -13, 0}, {0, 0, 3}, {0, 0, -1}, {-99, 0, 0}, {-101, 0, 0}};
        for (int[] n : bad) {
            due.is("22: bad", r.see(n[0], n[1], n[2]), BAD);
        }
        due.is("22: the same again", r.see(12, -12, 2), 3);
        due.is("22", r.see(0, 0, 1), 4);
        due.is("22: full", r.see(0, 0, 1), FULL);
        due.is("22: bad comes ahead of full", r.see(0, 0, 3), BAD);
        due.is("22: how many", r.count(0), 4);
        due.is("22: none then", r.see(-100, 77, -9), 0);
        due.is("22: none", r.count(0), 0);
        due.is("22: from the first on", r.see(1, 1, 1), 1);
    }

    private static void promise23() {
        EndlessRoots r = with(5, 3);
        due.is("23: nothing seen", r.fits(), 63);
        r.see(1, 1, 1);
        due.is("23: a 1", r.fits(), 1);
        r.see(-100, 0, 0);
        r.see(-1, -1, 2);
        due.is("23: all but a 1", r.fits(), 62);
        r.see(6, 1, 1);
        due.is("23: a 6", r.fits(), 32);
        r.see(2, 0, 1);
        due.is("23: by none", r.fits(), 0);
        due.is("23: a as it was", r.told(0), 5);
        r.see(-100, 0, 0);
        r.see(1, 1, 1);
        r.table(5, 1);
        due.is("23: by another b", r.fits(), 63);
        r.table(5, 2);
        due.is("23: by another b", r.fits(), 1);
    }

    private static void promise24() {
        EndlessRoots r = with(3, 3);
        due.is("24: 1 of 1", r.odds(1, 0), 1);
        due.is("24: 1 of 1", r.odds(1, 1), 1);
        due.is("24: 5 of 13", r.odds(12, 0), 5);
        due.is("24: 5 of 13", r.odds(12, 1), 13);
        due.is("24: 2 of 4", r.odds(3, 0), 1);
        due.is("24: 2 of 4", r.odds(3, 1), 2);
        r.table(1, 1);
        due.is("24: none", r.odds(4, 0), 0);
        due.is("24: none", r.odds(4, 1), 1);
        int[][] no = {{0, 0}, {13, 0}, {1, 2}, {1, -1}, {LEAST, 0}};
        for (int[] n : no) {
            due.is("24: no", r.odds(n[0], n[1]), NO);
        }
    }

    private static void promise25() {
        EndlessRoots r = with(6, 6);
        due.is("25: 303 of 13", r.mean(12, 0), 303);
        due.is("25: 303 of 13", r.mean(12, 1), 13);
        due.is("25: 2 of 2", r.mean(1, 0), 1);
        due.is("25: 2 of 2", r.mean(1, 1), 1);
        r.table(1, 1);
        due.is("25: none", r.mean(7, 0), 0);
        due.is("25: none", r.mean(7, 1), 1);
        int[][] no = {{0, 0}, {13, 0}, {1, 2}, {1, -1}, {LEAST, 0}};
        for (int[] n : no) {
            due.is("25: no", r.mean(n[0], n[1]), NO);
        }
    }

    private static void promise26() {
        EndlessRoots r = new EndlessRoots();
        int[][] rows = {{0, 0}, {0, 1}, {1, 1}, {1, 6}, {2, 0}, {2, 0}, {2, 0}, {2, 0}};
        for (int k = 0; k < rows.length; k++) {
            due.is("26: no such", r.event(3, 0), NONE);
            due.is("26: no such", r.event(-2, 0), NONE);
            due.is("26", r.event(rows[k][0], rows[k][1]), k + 1);
        }
        due.is("26: full", r.event(2, 0), FULL);
        int[][] bad = {{0, 2}, {0, -1}, {1, 0}, {1, 7}, {2, 1}, {2, -1}, {0, LEAST}};
        for (int[] n : bad) {
            due.is("26: bad comes ahead of full", r.event(n[0], n[1]), BAD);
        }
        due.is("26: none comes ahead of bad and full", r.event(3, -7), NONE);
        due.is("26: how many", r.count(1), 8);
        due.is("26: none then", r.event(-1, 55), 0);
        due.is("26: none", r.count(1), 0);
        due.is("26: bad", r.event(1, 0), BAD);
        due.is("26: nothing came", r.count(1), 0);
    }

    private static void after(EndlessRoots r, int sort, int kind, long norm) {
        due.is("27: sort", r.after(0), sort);
        due.is("27: kind", r.after(1), kind);
        due.is("27: norm", r.after(2), norm);
    }

    private static void promise27() {
        EndlessRoots r = with(2, 3);
        r.place(1, 1);
        after(r, 2, 2, -2);
        r.event(1, 1);
        after(r, 1, 0, 6 - 6 + 2);
        r.event(2, 0);
        after(r, 1, 0, 2);
        r.event(0, 0);
        // a 3, b 1, AT 2, 1
        after(r, 1, 0, 8 - 12 + 6);
        r.event(1, 4);
        // a 4, b 1, AT 2, 1
        after(r, 2, 1, 0);
        r.event(0, 1);
        // AT 2, 1 again: COAT 1 is 0
        after(r, 2, 1, 0);
        due.is("27: a as it was", r.told(0), 2);
        due.is("27: b as it was", r.told(1), 3);
        isAt("27: as it was", r, 1, 1);
        EndlessRoots turned = with(2, 3);
        turned.place(2, 5);
        turned.event(2, 0);
        turned.event(1, 1);
        // a 1, b 2, AT 5, 2
        due.is("27: x and y change places, too", turned.after(2), 100 - 40 + 8);
        EndlessRoots far = with(6, 1);
        far.place(500, 999);
        far.event(0, 0);
        far.event(0, 1);
        // by 0 it would leave, so it is 500, 999 still; by 1: 500, -499
        due.is("27: what would leave stays", far.after(2), 500000L + 12L * 500 * 499 + 12L * 499 * 499);
        due.is("27: what", far.after(3), NO);
        due.is("27: what", far.after(-1), NO);
    }

    private static void promise28() {
        EndlessRoots r = new EndlessRoots();
        due.is("28", r.book(0, 12, 0), 1);
        due.is("28", r.book(12, 0, 999), 2);
        int[][] bad = {
            {0, 0, 0}, {13, 0, 0}, {0, 13, 0}, {-2, 3, 0}, {3, -1, 0}, {7, 6, 0}, {1, 1, -1}, {1, 1, 1000}, {LEAST, 0, 0},
        };
        for (int[] n : bad) {
            due.is("28: bad", r.book(n[0], n[1], n[2]), BAD);
        }
        for (int k = 3; k <= 8; k++) {
            due.is("28", r.book(1, 1, 1), k);
        }
        due.is("28: full", r.book(1, 1, 1), FULL);
        due.is("28: bad comes ahead of full", r.book(1, 1, 1000), BAD);
        due.is("28: how many", r.count(2), 8);
        due.is("28: empty then", r.book(-1, 99, -99), 0);
        due.is("28: empty", r.count(2), 0);
    }

    private static void promise29() {
        EndlessRoots r = with(3, 3);
        due.is("29: nothing booked", r.looked(), -5);
        r.book(6, 6, 39);
        r.book(1, 4, 0);
        r.book(2, 3, 2);
        due.is("29: all so", r.looked(), -5);
        r.book(2, 3, 3);
        r.book(2, 3, 4);
        due.is("29: the first otherwise", r.looked(), 3);
        r.table(2, 2);
        due.is("29: by another table", r.looked(), 0);
    }

    private static void promise30() {
        EndlessRoots r = with(3, 3);
        due.is("30: nothing there", r.judge(0, 0), 100);
        due.is("30: nothing there, below 0", r.judge(0, -1), 100);
        due.is("30: no tape", r.judge(6, 0), NONE);
        due.is("30: no tape", r.judge(-1, 0), NONE);
        for (int sort = 0; sort <= 4; sort++) {
            r.tape(1, sort, 20);
            due.is("30: sort " + sort, r.judge(1, -1), sort == 2 ? 100 : CAST);
        }
        int[] levels = {2, 1, 2, 3};
        r.tape(2, 2, 20);
        for (int k = 0; k < 12; k++) {
            r.item(2, 5 + k, k < 4 ? levels[k] : r.level(k + 1, 1));
        }
        due.is("30: none", r.judge(2, 5), -5);
        due.is("30: the first", r.judge(2, 4), 1);
        r.item(2, 7, 3);
        due.is("30: the third", r.judge(2, 5), 3);
        r.item(2, 7, 2);
        r.item(2, 16, 106);
        due.is("30: the last", r.judge(2, 5), 12);
        r.tape(3, 2, 8);
        r.shift(2, 5, 3, 4, 4);
        due.is("30: ends behind four", r.judge(3, 4), 104);
        due.is("30: at the end", r.judge(3, 8), 100);
        due.is("30: beyond the end", r.judge(3, 9), 100);
        due.is("30: far beyond", r.judge(3, MOST), 100);
        due.is("30: below 0", r.judge(3, -1), 100);
        due.is("30: far below 0", r.judge(3, LEAST), 100);
        r.tape(4, 2, 0);
        due.is("30: a row of 0", r.judge(4, 0), 100);
    }

    private static void promise31And32() {
        EndlessRoots r = new EndlessRoots();
        due.is("32: none", r.undo(), STATE);
        r.table(3, 4);
        r.place(5, 6);
        r.note();
        r.see(1, 1, 2);
        r.event(1, 2);
        r.book(1, 1, 1);
        feed(r, "no");
        due.is("31", r.image(), 34);
        r.table(1, 2);
        r.place(-7, -8);
        r.note();
        r.see(1, 1, 0);
        r.event(-1, 0);
        r.event(1, 1);
        r.event(1, 1);
        r.book(1, 1, 0);
        feed(r, "t");
        r.tape(0, 2, 3);
        for (int times = 0; times < 2; times++) {
            due.is("32", r.undo(), 34);
            isAt("32", r, 5, 6);
            due.is("32: notes", r.told(6), 1);
            due.is("32: note", r.noted(0, 0), 1005);
            due.is("32: seen", r.count(0), 1);
            due.is("32: seen", r.fits(), 62);
            due.is("32: events", r.count(1), 1);
            due.is("32: event", r.after(2), 200 - 480 + 144);
            due.is("32: book", r.count(2), 1);
            due.is("32: book", r.looked(), -5);
            due.is("32: the text is not of the image", r.count(3), 3 + 4 * times);
            due.is("32: tapes are not of the image", r.peek(0, times), times * 9L);
            r.wipe();
            r.see(-100, 0, 0);
            r.book(-1, 0, 0);
            r.item(0, 1, 9);
            feed(r, "eeee");
        }
        r.table(6, 5);
        due.is("31: anew", r.image(), 65);
        r.table(1, 1);
        due.is("32: the newest", r.undo(), 65);
    }

    private static void promise33() {
        EndlessRoots r = new EndlessRoots();
        r.see(0, 0, 0);
        for (int k = 0; k < 2; k++) {
            r.event(2, 0);
        }
        for (int k = 0; k < 3; k++) {
            r.book(1, 1, 1);
        }
        feed(r, "note");
        for (int what = 0; what <= 3; what++) {
            due.is("33: count(" + what + ")", r.count(what), what + 1);
        }
        due.is("33: bad", r.count(4), BAD);
        due.is("33: bad", r.count(-1), BAD);
    }

    private static void promise34() {
        EndlessRoots r = new EndlessRoots();
        for (int sort = 0; sort <= 4; sort++) {
            due.is("34", r.tape(sort, sort, 60), 1);
            due.is("34: all 0", r.peek(sort, 59), 0);
            due.is("34: its end", r.peek(sort, 60), NO);
        }
        due.is("34: 0", r.tape(5, 0, 0), 1);
        due.is("34: nothing in it", r.item(5, 0, 1), PLACE);
        r.item(2, 7, 77);
        int[][] none = {{6, 0, 0}, {-1, 0, 0}, {6, 9, 99}, {6, -1, 0}, {LEAST, 0, -1}};
        for (int[] n : none) {
            due.is("34: none comes first", r.tape(n[0], n[1], n[2]), NONE);
        }
        int[][] bad = {{2, 5, 0}, {2, -2, 0}, {2, 0, 61}, {2, 5, -1}, {2, -2, 61}, {2, 2, MOST}};
        for (int[] n : bad) {
            due.is("34: bad comes ahead of size", r.tape(n[0], n[1], n[2]), BAD);
        }
        due.is("34: size", r.tape(2, 0, -1), SIZE);
        due.is("34: size", r.tape(2, 4, LEAST), SIZE);
        due.is("34: as it was", r.peek(2, 7), 77);
        due.is("34: anew", r.tape(2, 2, 60), 1);
        due.is("34: all 0 anew", r.peek(2, 7), 0);
        due.is("34: nothing", r.tape(2, -1, 99), 1);
        due.is("34: nothing there", r.item(2, 0, 1), NOTHING);
        due.is("34: nothing", r.tape(2, -1, -99), 1);
    }

    private static void promise35() {
        EndlessRoots r = new EndlessRoots();
        long v = 0x8123456789ABCDEFL;
        long[] cut = {(byte) 0xEF, (short) 0xCDEF, 0x89ABCDEF, v, 1};
        for (int sort = 0; sort <= 4; sort++) {
            r.tape(sort, sort, 3);
            due.is("35", r.item(sort, 2, v), 1);
            due.is("35: its lowest bits, sort " + sort, r.peek(sort, 2), cut[sort]);
            due.is("35: no other item", r.peek(sort, 1), 0);
            due.is("35: place", r.item(sort, 3, v), PLACE);
            due.is("35: place", r.item(sort, -1, v), PLACE);
            due.is("35: place", r.item(sort, LEAST, v), PLACE);
            due.is("35: place", r.item(sort, MOST, v), PLACE);
            due.is("35: 0 again", r.item(sort, 2, 0), 1);
            due.is("35: 0 again", r.peek(sort, 2), 0);
        }
        r.item(4, 0, 1L << 40);
        due.is("35: whether it is not 0", r.peek(4, 0), 1);
        due.is("35: nothing there", r.item(5, -1, 0), NOTHING);
        due.is("35: no tape", r.item(6, -1, 0), NONE);
        due.is("35: no tape", r.item(-1, 0, 0), NONE);
    }

    private static void promise36() {
        EndlessRoots r = new EndlessRoots();
        r.tape(3, 3, 2);
        r.item(3, 1, -5);
        due.is("36", r.peek(3, 1), -5);
        due.is("36", r.peek(3, 0), 0);
        int[][] no = {{3, 2}, {3, -1}, {3, LEAST}, {3, MOST}, {2, 0}, {6, 0}, {-1, 0}, {LEAST, LEAST}};
        for (int[] n : no) {
            due.is("36: no", r.peek(n[0], n[1]), NO);
        }
        r.tape(3, 3, 1);
        due.is("36: a shorter row", r.peek(3, 1), NO);
        r.tape(3, 3, 2);
        due.is("36: all 0", r.peek(3, 1), 0);
        r.item(3, 0, 8);
        r.tape(3, -1, 0);
        due.is("36: nothing there any more", r.peek(3, 0), NO);
        r.tape(3, 2, 2);
        due.is("36: all 0 behind nothing", r.peek(3, 0), 0);
    }

    private static void row(String of, EndlessRoots r, int tape, int... want) {
        for (int k = 0; k < want.length; k++) {
            due.is("37: " + of + ", item " + k, r.peek(tape, k), want[k]);
        }
    }

    private static void promise37() {
        EndlessRoots r = new EndlessRoots();
        r.tape(0, 2, 5);
        r.tape(1, 2, 4);
        r.tape(2, 3, 5);
        for (int k = 0; k < 5; k++) {
            r.item(0, k, k + 1);
        }
        due.is("37: to another", r.shift(0, 1, 1, 0, 3), 3);
        row("to another", r, 1, 2, 3, 4, 0);
        due.is("37: up", r.shift(0, 0, 0, 1, 4), 4);
        row("as they all were before, up", r, 0, 1, 1, 2, 3, 4);
        due.is("37: down", r.shift(0, 1, 0, 0, 4), 4);
        row("as they all were before, down", r, 0, 1, 2, 3, 4, 4);
        due.is("37: none of them", r.shift(0, 5, 1, 4, 0), 0);
        int[][] place = {
            {0, -1, 1, 0, 1}, {0, 0, 1, -1, 1}, {0, 0, 1, 0, -1}, {0, 3, 1, 0, 3}, {0, 0, 1, 2, 3}, {0, 6, 1, 0, 0},
            {0, 0, 1, 5, 0}, {0, MOST, 1, 0, MOST}, {0, 1, 1, 1, MOST}, {0, LEAST, 1, LEAST, LEAST}, {0, 0, 1, 0, 5},
        };
        for (int[] n : place) {
            due.is("37: place", r.shift(n[0], n[1], n[2], n[3], n[4]), PLACE);
        }
        row("as it was", r, 1, 2, 3, 4, 0);
        due.is("37: cast comes ahead of place", r.shift(0, -1, 2, 0, 1), CAST);
        due.is("37: cast", r.shift(2, 0, 0, 0, 0), CAST);
        due.is("37: nothing comes ahead of place", r.shift(0, -1, 5, 0, 1), NOTHING);
        due.is("37: nothing", r.shift(5, 0, 2, 0, 1), NOTHING);
        due.is("37: none comes first", r.shift(6, 0, 5, 0, 1), NONE);
        due.is("37: none comes first", r.shift(5, 0, 6, 0, 1), NONE);
        due.is("37: none", r.shift(0, 0, -1, 0, 1), NONE);
    }
}
