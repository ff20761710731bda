/** Counts what was as due and tells what was not. */
final class Check {
    private static int passed = 0;
    private static int failed = 0;

    private Check() {
    }

    static void same(String what, long got, long due) {
        if (got == due) {
            passed++;
            return;
        }
        failed++;
        System.out.println(what + " answered " + got + ", due is " + due);
    }

    static void holds(String what, boolean got) {
        same(what, got ? 1 : 0, 1);
    }

    static int failures() {
        return failed;
    }

    static void close() {
        System.out.println(passed + " passed, " + failed + " failed");
    }
}
