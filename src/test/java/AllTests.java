import java.io.IOException;
import java.nio.file.Path;

/** Runs every test of the project; its one argument is the file of the program. */
public final class AllTests {
    private AllTests() {
    }

    public static void main(String[] arguments) throws IOException {
        PromiseTests.run();
        ArgumentTests.run();
        TermsTests.run();
        TextTests.run();
        ChangeTests.run();
        ModelTests.run();
        RuleTests.run(Path.of(arguments[0]));
        Check.tellSum();
        if (Check.failures() != 0) {
            System.exit(1);
        }
    }
}
