/** Runs every test of the project; ends with exit code 1 if one failed. */
public final class AllTests {
    private AllTests() {
    }

    public static void main(String[] args) throws Exception {
        PromiseTests.run();
        RefusalTests.run();
        TextEdgeTests.run();
        RoundEdgeTests.run();
        BestEdgeTests.run();
        ReadingEdgeTests.run();
        SheetEdgeTests.run();
        LanguageTests.run(args.length > 0 ? args[0] : "src/main/java/UseMuseum.java");
        ReadmeTests.run("README.md");
        RandomRunTests.run();
        Check.close();
        if (Check.failures() > 0) {
            System.exit(1);
        }
    }
}
