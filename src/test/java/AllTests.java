/** Runs every test of the project. */
public final class AllTests {
    private AllTests() {
    }

    public static void main(String[] args) {
        ChangeTests.run();
        MinuteTests.run();
        QueryTests.run();
        ScriptTests.run();
        UndoTests.run();
        TermsTests.run();
        OneMinuteTests.run();
        ScriptTermsTests.run();
        ChangesTermsTests.run();
        ThrowsTests.run();
        AnswerTests.run();
        DescriptionTests.run();
        Sentences.run();
        ModelTests.run();
        FormTests.run();
        ReadmeTests.run();
        if (!Check.close()) {
            System.exit(1);
        }
    }
}
