import java.io.IOException;
import java.nio.file.Files;
import java.nio.file.Path;

/** .ci/run itself: what it must refuse. Each copy has one small test of its own and one beside it, to be quick. */
public final class CiRunTest {
    private static final String RIGHT = "if (new DebtTable().count(0) != 0) { System.exit(1); }";
    private static final String WRONG = "if (new DebtTable().count(0) != 9) { System.exit(1); }";
    private static final String THROWS = "throw new IllegalStateException();";
    private static final String DOES_NOT_COMPILE = "new DebtTable().noSuchCall();";

    private CiRunTest() { }

    public static void main(String[] args) throws IOException, InterruptedException {
        if (!Copy.isInsideOne()) {
            all();
        }
        Check.end();
    }

    private static void all() throws IOException, InterruptedException {
        Check.about(".ci/run: all is right");
        run(0, "2 passed, 0 failed", RIGHT, RIGHT);
        Check.about(".ci/run: a test of the project");
        run(1, "FAILED: SmallTest", WRONG, RIGHT);
        run(1, "FAILED: SmallTest", THROWS, RIGHT);
        run(1, "FAILED: the project's tests do not compile", DOES_NOT_COMPILE, RIGHT);
        run(1, "FAILED: no test of the project", "", RIGHT);
        Check.about(".ci/run: a test under ../shared/tests");
        run(1, "FAILED: Beside", RIGHT, WRONG);
        run(1, "FAILED: Beside", RIGHT, THROWS);
        run(1, "FAILED: ../shared/tests/Beside.java does not compile", RIGHT, DOES_NOT_COMPILE);
        run(1, "FAILED: no test under ../shared/tests", RIGHT, "");
        Check.about(".ci/run: the class");
        runBrokenClass();
    }

    private static void run(int due, String told, String own, String beside) throws IOException, InterruptedException {
        try (Copy copy = smallCopy(own, beside)) {
            Check.is(due, copy.run(".ci/run"));
            Check.is(true, copy.printed().contains(told));
        }
    }

    private static void runBrokenClass() throws IOException, InterruptedException {
        try (Copy copy = smallCopy(RIGHT, RIGHT)) {
            Files.writeString(copy.project.resolve("src/main/java/DebtTable.java"), "public final class DebtTable {");
            Check.is(1, copy.run(".ci/run"));
            Check.is(true, copy.printed().contains("FAILED: src/main/java/DebtTable.java does not compile"));
        }
    }

    private static Copy smallCopy(String own, String beside) throws IOException {
        Copy copy = new Copy();
        Path tests = copy.project.resolve("src/test/java");
        Copy.delete(tests);
        Copy.delete(copy.shared.resolve("tests"));
        writeTest(tests, "SmallTest", own);
        writeTest(copy.shared.resolve("tests"), "Beside", beside);
        return copy;
    }

    /** A test of these statements; none: there is no test. */
    private static void writeTest(Path folder, String name, String statements) throws IOException {
        Files.createDirectories(folder);
        if (!statements.isEmpty()) {
            Files.writeString(folder.resolve(name + ".java"), "public final class " + name
                    + " {\n    public static void main(String[] args) {\n        " + statements + "\n    }\n}\n");
        }
    }
}
