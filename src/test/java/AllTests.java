/** Runs every test of the project; the first argument is the path of Takinghall.java. */
public final class AllTests {
    private AllTests() {
    }

    public static void main(String[] arguments) throws Exception {
        PlotTests.all();
        InterestTests.all();
        SchemeTests.all();
        TakingTests.all();
        OfferTests.all();
        DayTests.all();
        RandomRuns.all();
        FaceTests.all(arguments[0]);
        System.out.println(Tally.passed() + " passed, " + Tally.failed() + " failed");
        if (Tally.failed() != 0) {
            System.exit(1);
        }
    }
}
