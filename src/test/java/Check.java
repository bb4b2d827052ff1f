/** Counts the answers that are not as due, and ends a test with exit code 1 if there was one. */
final class Check {
    private final String test;
    private String promise = "";
    private int made = 0;
    private int wrong = 0;

    Check(String test) {
        this.test = test;
    }

    void promise(String name) {
        promise = name;
    }

    void due(String call, long got, long want) {
        made++;
        if (got != want) {
            tell(call + " answered " + got + ", due is " + want);
        }
    }

    /** Compares the bits, so that -0.0f is not 0.0f; any NaN is as good as another. */
    void dueFloat(String call, float got, float want) {
        made++;
        if (Float.floatToIntBits(got) != Float.floatToIntBits(want)) {
            tell(call + " answered " + got + ", due is " + want);
        }
    }

    void dueTrue(String what, boolean is) {
        made++;
        if (!is) {
            tell(what);
        }
    }

    private void tell(String what) {
        wrong++;
        if (wrong <= 50) {
            System.out.println(test + ", " + promise + ": " + what);
        }
    }

    void end() {
        System.out.println(test + ": " + made + " checks, " + wrong + " wrong");
        if (wrong != 0 || made == 0) {
            System.exit(1);
        }
    }
}
