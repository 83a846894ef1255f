/** Runs every test of the project; ends with exit code 1 if one fails. */
public final class AllTests {
    private AllTests() {
    }

    public static void main(String[] args) {
        PromiseTests.run();
        RangeTests.run();
        OrderTests.run();
        StateTests.run();
        TermsTests.run();
        AnswerTests.run();
        FaceTests.run();
        RoomTests.run();
        ReadmeTests.run();
        ModelTests.run();
        if (!Check.report()) {
            System.exit(1);
        }
    }
}
