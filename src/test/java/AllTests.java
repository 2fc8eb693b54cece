/** Runs every test of the project; its arguments are the paths of the program's file and of README.md. */
public final class AllTests {
    private AllTests() {
    }

    public static void main(String[] args) throws java.io.IOException {
        String source = args.length > 0 ? args[0] : "src/main/java/SquopPiles.java";
        String readme = args.length > 1 ? args[1] : "README.md";
        Checks checks = new Checks();
        new GameTests(checks).all();
        new TurnTests(checks).all();
        new TextTests(checks).all();
        new PastTests(checks).all();
        new LookTests(checks).all();
        new WouldBeTests(checks).all();
        new RangeTests(checks).all();
        new RefusalTests(checks).all();
        new MatEdgeTests(checks).all();
        new StoreEdgeTests(checks).all();
        new LookEdgeTests(checks).all();
        new ModelTests(checks).all();
        new FaceTests(checks).all();
        new LanguageTests(checks, source).all();
        new ReadmeTests(checks, readme).all();
        System.out.println("project: " + checks.summary());
        if (checks.failedTests() > 0) {
            System.exit(1);
        }
    }
}
