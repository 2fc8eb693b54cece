/** Runs every test of the project; its argument is the path of the program's file. */
public final class AllTests {
    private AllTests() {
    }

    public static void main(String[] args) throws java.io.IOException {
        String source = args.length > 0 ? args[0] : "src/main/java/SquopPiles.java";
        Checks checks = new Checks();
        new GameTests(checks).all();
        new TurnTests(checks).all();
        new TextTests(checks).all();
        new PastTests(checks).all();
        new LookTests(checks).all();
        new WouldBeTests(checks).all();
        new RangeTests(checks).all();
        new RefusalTests(checks).all();
        new MatEdgeTests(checks).all();
        new StoreEdgeTests(checks).all();
        new LookEdgeTests(checks).all();
        new ModelTests(checks).all();
        new FaceTests(checks).all();
        new LanguageTests(checks, source).all();
        System.out.println("project: " + checks.summary());
        if (checks.failedTests() > 0) {
            System.exit(1);
        }
    }
}
