/** Runs all tests of the project; the one argument is the path of ChoirRegister.java. */
public final class AllTests {
    private AllTests() {
    }

    public static void main(String[] args) throws java.io.IOException {
        SingerTests.run();
        if (!Checks.report()) {
            System.exit(1);
        }
    }
}
