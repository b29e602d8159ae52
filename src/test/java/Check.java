/** Counts answers that are not the ones that are due, and ends a test with their number. */
final class Check {
    private final String test;
    private int asked = 0;
    private int wrong = 0;

    Check(String test) {
        this.test = test;
    }

    void due(String call, long got, long want) {
        asked++;
        if (got != want) {
            wrong++;
            System.out.println(test + ": " + call + " answered " + got + ", due is " + want);
        }
    }

    void same(String what, String got, String want) {
        asked++;
        if (!got.equals(want)) {
            wrong++;
            System.out.println(test + ": " + what + " is " + got + ", due is " + want);
        }
    }

    void holds(String what, boolean is) {
        asked++;
        if (!is) {
            wrong++;
            System.out.println(test + ": does not hold: " + what);
        }
    }

    int asked() {
        return asked;
    }

    boolean isWrong() {
        return wrong > 0;
    }

    void end() {
        System.out.println(test + ": " + asked + " asked, " + wrong + " wrong");
        if (wrong > 0 || asked == 0) {
            System.exit(1);
        }
    }
}
