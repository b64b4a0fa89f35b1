/** Counts what was as due and what was not; every test of the project tells its answers here. */
final class Check {
    private static final int MOST_TOLD = 40;
    private static int passed = 0;
    private static int failed = 0;

    private Check() {
    }

    static void due(String what, long got, long want) {
        if (got == want) {
            passed++;
        } else {
            fail(what + " answered " + got + ", due is " + want);
        }
    }

    static void isTrue(String what, boolean holds) {
        if (holds) {
            passed++;
        } else {
            fail(what);
        }
    }

    private static void fail(String text) {
        failed++;
        if (failed <= MOST_TOLD) {
            System.out.println("FAILED: " + text);
        }
    }

    static int failures() {
        return failed;
    }

    static void tellSum() {
        System.out.println(passed + " passed, " + failed + " failed");
    }
}
