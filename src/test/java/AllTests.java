import java.io.IOException;
import java.nio.file.Path;

/** Runs every test of the project; its arguments are the file of the program and README.md. */
public final class AllTests {
    private AllTests() {
    }

    public static void main(String[] arguments) throws IOException {
        if (arguments.length != 2) {
            System.out.println("wanted: the file of the program, and README.md");
            System.exit(2);
        }
        Path program = Path.of(arguments[0]);
        PromiseTests.run();
        ArgumentTests.run();
        TermsTests.run();
        TextTests.run();
        ChangeTests.run();
        ModelTests.run();
        RuleTests.run(program);
        FormTests.run(program);
        ReadmeTests.run(Path.of(arguments[1]));
        Check.tellSum();
        if (Check.failures() != 0) {
            System.exit(1);
        }
    }
}
