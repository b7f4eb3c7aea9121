/** All 36 tables: whatever a table tells of each small PLACE, against the model; and sums that must agree. */
public final class TablesTest {
    private static final Due due = new Due("TablesTest");

    public static void main(String[] args) {
        for (int a = 1; a <= 6; a++) {
            for (int b = 1; b <= 6; b++) {
                EndlessRoots roots = fresh(a, b);
                Model model = new Model();
                model.table(a, b);
                String of = "with table " + a + " " + b + " ";
                due.is(of + "told(2)", roots.told(2), model.told(2));
                counts(of, model);
                levels(of, model);
                sorts(of, model);
                lowered(of, model);
                strings(of, model);
            }
        }
        oneBehindTheOther();
        due.close();
    }

    /** What is kept of one table must not be told of the next, though a or b stay. */
    private static void oneBehindTheOther() {
        EndlessRoots roots = new EndlessRoots();
        Model m = new Model();
        for (int k = 0; k < 72; k++) {
            int a = k < 36 ? k / 6 + 1 : k % 6 + 1;
            int b = k < 36 ? k % 6 + 1 : (k - 36) / 6 + 1;
            due.is("table", roots.table(a, b), m.table(a, b));
            due.is("counted(5, 5)", roots.counted(5, 5), m.counted(5, 5));
            due.is("c(3, 6, 0)", roots.c(3, 6, 0), m.c(3, 6, 0));
            due.is("made(1, " + (b + 1) + ")", roots.made(1, b + 1), m.made(1, b + 1));
            due.is("made(" + (a + 1) + ", 1)", roots.made(a + 1, 1), m.made(a + 1, 1));
            due.is("level(7, 1)", roots.level(7, 1), m.level(7, 1));
        }
    }

    private static EndlessRoots fresh(int a, int b) {
        EndlessRoots roots = new EndlessRoots();
        due.is("table(" + a + ", " + b + ")", roots.table(a, b), 22);
        return roots;
    }

    private static EndlessRoots fresh(Model m) {
        return fresh(m.a, m.b);
    }

    private static void counts(String of, Model m) {
        EndlessRoots roots = fresh(m);
        EndlessRoots other = fresh(m);
        for (int x = 0; x <= 12; x++) {
            for (int y = 0; x + y <= 12; y++) {
                String at = "(" + x + ", " + y + ")";
                due.is(of + "made" + at, roots.made(x, y), m.made(x, y));
                due.is(of + "signed" + at, roots.signed(x, y), m.signed(x, y));
                due.holds(of + "made and signed agree " + at, other.made(x, y) == other.signed(x, y) - 1);
                due.is(of + "counted" + at, roots.counted(x, y), m.counted(x, y));
                due.is(of + "c above" + at, other.c(x, y, 0), m.c(x, y, 0));
                due.is(of + "c below" + at, other.c(x, y, 1), m.c(x, y, 1));
            }
        }
    }

    private static void levels(String of, Model m) {
        EndlessRoots roots = fresh(m);
        for (int h = 0; h <= 13; h++) {
            for (int part = 0; part <= 1; part++) {
                String at = "(" + h + ", " + part + ")";
                due.is(of + "level" + at, roots.level(h, part), m.level(h, part));
                due.is(of + "odds" + at, roots.odds(h, part), m.odds(h, part));
                due.is(of + "mean" + at, roots.mean(h, part), m.mean(h, part));
            }
        }
        EndlessRoots judging = fresh(m);
        judging.tape(2, 2, 14);
        for (int h = 1; h <= 12; h++) {
            judging.item(2, h, m.level(h, 1));
        }
        due.is(of + "judge(2, 1)", judging.judge(2, 1), -5);
        for (int h = 1; h <= 12; h++) {
            judging.item(2, h, m.level(h, 1) + 1L);
            due.is(of + "judge(2, 1), wrong at " + h, judging.judge(2, 1), h);
            judging.item(2, h, m.level(h, 1));
        }
        due.is(of + "judge(2, 1) again", judging.judge(2, 1), -5);
    }

    /** A new object every 500 calls: what one answers behind its 512th is free. */
    private static void sorts(String of, Model m) {
        EndlessRoots roots = fresh(m);
        int calls = 1;
        for (int x = -24; x <= 40; x++) {
            for (int y = -24; y <= 40; y++) {
                if (++calls > 500) {
                    roots = fresh(m);
                    calls = 1;
                }
                due.is(of + "sort(" + x + ", " + y + ")", roots.sort(x, y), m.sort(x, y));
            }
        }
        roots = fresh(m);
        for (int x = 990; x <= 999; x++) {
            for (int y = 1; y <= 999; y += 77) {
                due.is(of + "sort(" + x + ", " + y + ")", roots.sort(x, y), m.sort(x, y));
                due.is(of + "sort(" + -y + ", " + -x + ")", roots.sort(-y, -x), m.sort(-y, -x));
            }
        }
        for (int k = 0; k < 100; k++) {
            due.is(of + "sort near the edge", roots.sort(900 + k, 999 - k), m.sort(900 + k, 999 - k));
        }
    }

    private static void lowered(String of, Model m) {
        for (int x = 0; x <= 12; x++) {
            EndlessRoots roots = fresh(m);
            for (int y = 0; y <= 12; y++) {
                for (int what = 0; what <= 2; what++) {
                    String at = "(" + x + ", " + y + ", " + what + ")";
                    due.is(of + "lowered" + at, roots.lowered(x, y, what), m.lowered(x, y, what));
                    int farX = 999 - 17 * x;
                    int farY = 999 - 5 * y * x;
                    at = "(" + farX + ", " + farY + ", " + what + ")";
                    due.is(of + "lowered" + at, roots.lowered(farX, farY, what), m.lowered(farX, farY, what));
                }
            }
        }
    }

    private static void strings(String of, Model m) {
        for (int x = -9; x <= 9; x++) {
            EndlessRoots roots = fresh(m);
            for (int y = -9; y <= 9; y++) {
                for (int k = 0; k < 4; k++) {
                    String at = "(" + k / 2 + ", " + x + ", " + y + ", " + k % 2 + ")";
                    due.is(of + "string" + at, roots.string(k / 2, x, y, k % 2), m.string(k / 2, x, y, k % 2));
                }
            }
        }
        EndlessRoots roots = fresh(m);
        for (int y = 99; y >= -99; y -= 6) {
            int x = y > 0 ? 99 : -99;
            for (int k = 0; k < 4; k++) {
                String at = "(" + k / 2 + ", " + x + ", " + y + ", " + k % 2 + ")";
                due.is(of + "string" + at, roots.string(k / 2, x, y, k % 2), m.string(k / 2, x, y, k % 2));
            }
        }
    }
}
