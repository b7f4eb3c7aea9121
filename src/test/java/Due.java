/** Gathers answers that are not the ones that are due; a test's main ends with close(). */
final class Due {
    private final String test;
    private int looked = 0;
    private int wrong = 0;

    Due(String test) {
        this.test = test;
    }

    void is(String call, long got, long want) {
        looked++;
        if (got != want) {
            wrong++;
            if (wrong <= 40) {
                System.out.println(test + ": " + call + " answered " + got + ", due is " + want);
            }
        }
    }

    /** An answer that was held against what is due elsewhere, where its text would take too long. */
    void fine() {
        looked++;
    }

    void holds(String what, boolean so) {
        looked++;
        if (!so) {
            wrong++;
            System.out.println(test + ": it does not hold that " + what);
        }
    }

    int wrong() {
        return wrong;
    }

    int looked() {
        return looked;
    }

    void close() {
        System.out.println(test + ": " + looked + " looked at, " + wrong + " wrong");
        if (wrong != 0 || looked == 0) {
            System.exit(1);
        }
    }
}
