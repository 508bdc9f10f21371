/** Counts the answers of one test that are not the ones that are due. */
final class Checks {
    private final String test;
    private int made = 0;
    private int wrong = 0;

    Checks(String test) {
        this.test = test;
    }

    void due(String call, long got, long want) {
        made++;
        if (got != want) {
            wrong++;
            System.out.println(test + ": " + call + " answered " + got + ", due is " + want);
        }
    }

    void same(String call, String got, String want) {
        made++;
        if (!got.equals(want)) {
            wrong++;
            System.out.println(test + ": " + call + ": " + got + ", due is " + want);
        }
    }

    /** The answers of a call for the numbers from .. on, one behind another. */
    void row(String call, long[] got, long... want) {
        due(call + ", how many", got.length, want.length);
        for (int i = 0; i < Math.min(got.length, want.length); i++) {
            due(call + " at " + i, got[i], want[i]);
        }
    }

    void finish() {
        if (made == 0 || wrong != 0) {
            System.out.println(test + ": " + wrong + " of " + made + " answers are not as due");
            System.exit(1);
        }
    }
}
