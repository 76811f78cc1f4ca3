import java.nio.file.Path;

/** Runs all tests of the project; ends with exit code 1 if one fails. The arguments are the paths of the program's text and of README.md. */
public final class AllTests {
    private static final int PROMISES = 56;

    private AllTests() {
    }

    public static void main(String[] arguments) throws Exception {
        FaceTest.run();
        InputTest.run();
        TextBoundaries.run();
        CellsTest.run();
        FigureBoundaries.run();
        RootsTest.run();
        RootBoundaries.run();
        CurvesTest.run();
        MeetingBoundaries.run();
        ChangesTest.run();
        ChangeBoundaries.run();
        DefinitionsTest.run();
        AloneTest.run();
        Checks.requireAllPromises(PROMISES);
        LanguageTest.run(Path.of(arguments[0]));
        CompiledTest.run();
        ReadmeTest.run(Path.of(arguments[1]));
        FuzzTest.run();
        System.out.println("the project's tests: " + Checks.passed() + " answers are as due, " + Checks.failed() + " are not");
        if (Checks.failed() > 0) {
            System.exit(1);
        }
    }
}
