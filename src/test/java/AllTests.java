/** Runs every test of the project; ends with exit code 1 if one fails. */
public final class AllTests {
    private AllTests() {
    }

    public static void main(String[] args) {
        FaceTest.run();
        QuarryTest.run();
        GlassTest.run();
        SeenTest.run();
        RowsTest.run();
        HostTest.run();
        KeptTest.run();
        RangeTest.run();
        RefusedTest.run();
        TextTest.run();
        TermsTest.run();
        HostEdgesTest.run();
        CallsTest.run();
        FormTest.run();
        ReadmeTest.run();
        ModelTest.run();
        if (!Check.told()) {
            System.exit(1);
        }
    }
}
