/** Counts what the tests found. */
final class Tally {
    private static int passed;
    private static int failed;

    private Tally() {
    }

    static void check(boolean isRight, String complaint) {
        if (isRight) {
            passed++;
            return;
        }
        failed++;
        if (failed <= 50) {
            System.out.println(caller() + ": " + complaint);
        }
    }

    static int passed() {
        return passed;
    }

    static int failed() {
        return failed;
    }

    /** The line of the test that asked, so that a complaint needs no text of its own. */
    private static String caller() {
        return StackWalker.getInstance().walk(frames -> frames
                .filter(f -> !f.getClassName().startsWith("Tally") && !f.getClassName().startsWith("Story"))
                .findFirst()
                .map(f -> f.getFileName() + ":" + f.getLineNumber() + " " + f.getMethodName())
                .orElse("?"));
    }
}
