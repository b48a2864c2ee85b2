/** Counts the checks of all tests, and says which of them failed. */
final class Checks {
    interface Call {
        long run();
    }

    private static int passed = 0;
    private static int failed = 0;

    private Checks() {
    }

    static void that(String what, boolean holds) {
        if (holds) {
            passed++;
        } else {
            failed++;
            System.out.println("FAILED: " + what);
        }
    }

    static void same(String what, long want, long got) {
        that(what + " answered " + got + ", due is " + want, got == want);
    }

    static void same(String what, boolean want, boolean got) {
        that(what + " answered " + got + ", due is " + want, got == want);
    }

    /** The call throws just this exception, and everything that the register tells stays as it was. */
    static void refuses(Register x, Class<? extends RuntimeException> want, String what, Call call) {
        String before = Facts.of(x);
        throwsJust(want, what, call);
        that(what + " changed something, though it is refused", before.equals(Facts.of(x)));
    }

    static void throwsJust(Class<? extends RuntimeException> want, String what, Call call) {
        Class<?> thrown = null;
        try {
            call.run();
        } catch (RuntimeException e) {
            thrown = e.getClass();
        }
        that(what + " threw " + thrown + ", due is " + want, thrown == want);
    }

    static boolean report() {
        System.out.println(passed + " passed, " + failed + " failed");
        return failed == 0;
    }
}
