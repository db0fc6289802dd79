/** All promises: random runs against the model. */
final class ModelTests {
    private static final int RUNS = 150;

    private ModelTests() {
    }

    static void randomRunsAnswerLikeTheModel() {
        for (int seed = 0; seed < RUNS; seed++) {
            String trouble = RandomRuns.trouble(seed);
            Checks.due("trouble by seed " + seed, trouble == null ? "none" : trouble, "none");
        }
    }
}
