import java.nio.file.Path;

/** Runs every test of the project; the arguments are the paths of Takinghall.java, DOC.md and README.md. */
public final class AllTests {
    private AllTests() {
    }

    public static void main(String[] arguments) throws Exception {
        Sentences.all(arguments[1]);
        PlotTests.all();
        InterestTests.all();
        SchemeTests.all();
        TakingTests.all();
        OfferTests.all();
        DayTests.all();
        RandomRuns.all();
        DocumentedFace face = new DocumentedFace(Path.of(arguments[1]));
        FaceTests.all(arguments[0], face);
        ReadmeTests.all(arguments[2], face);
        System.out.println(Tally.passed() + " passed, " + Tally.failed() + " failed");
        if (Tally.failed() != 0) {
            System.exit(1);
        }
    }
}
