import java.io.IOException;
import java.nio.file.Files;
import java.nio.file.Path;

/** Runs every test; ends with exit code 1 if one fails. With a file's name it writes the counts there. */
final class AllTests {
    public static void main(String[] args) throws IOException {
        Suite[] suites = {new FaceTest(), new TextTest(), new PrimesTest(), new SequencesTest(),
            new TransformsTest(), new ConvolutionsTest(), new ProductTest(), new ChangesTest(),
            new PrimeEdgesTest(), new SequenceEdgesTest(), new TransformEdgesTest(),
            new ConvolutionEdgesTest(), new PlanEdgesTest(), new ProductEdgesTest(), new TextEdgesTest(),
            new ChangeEdgesTest(), new RefusalTest(), new ReadmeTest(), new LanguageTest(), new OracleTest()};
        for (Suite suite : suites) {
            suite.run();
        }
        System.out.println("own tests: " + Suite.passed + " passed, " + Suite.failed + " failed");
        if (args.length > 0) {
            Files.writeString(Path.of(args[0]), Suite.passed + " " + Suite.failed + "\n");
        }
        if (Suite.failed != 0) {
            System.exit(1);
        }
    }
}
