/** Runs all tests of the project; the arguments are the paths of ChoirRegister.java and of the document. */
public final class AllTests {
    private AllTests() {
    }

    public static void main(String[] args) throws java.io.IOException {
        FaceTests.run(args[0], args[1]);
        StateTests.run();
        SingerTests.run();
        FeastTests.run();
        LetterTests.run();
        RangeTests.run();
        OrderTests.run();
        CountTests.run();
        DayTests.run();
        LineupTests.run();
        EveryWayTests.run();
        LetterEdgeTests.run();
        RestoreTests.run();
        ModelTests.run();
        if (!Checks.report()) {
            System.exit(1);
        }
    }
}
