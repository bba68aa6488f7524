import java.io.IOException;
import java.lang.reflect.Method;
import java.lang.reflect.Modifier;
import java.nio.file.Files;
import java.nio.file.Path;
import java.util.ArrayList;
import java.util.List;
import java.util.regex.Matcher;
import java.util.regex.Pattern;

/** README.md: its example, the calls that it names, the commands that it tells. It is run from the project's folder. */
public final class ReadmeTest {
    private ReadmeTest() { }

    public static void main(String[] args) throws IOException, InterruptedException {
        String readme = Files.readString(Path.of("README.md"));
        Check.about("README.md: the calls");
        calls(readme);
        Check.about("README.md: the example");
        example(readme);
        if (!Copy.isInsideOne()) {
            Check.about("README.md: the commands");
            commands(readme);
        }
        Check.end();
    }

    /** The blocks of a sort: what stands between ```sort and ```. */
    private static List<String> blocks(String readme, String sort) {
        List<String> found = new ArrayList<>();
        Matcher m = Pattern.compile("(?ms)^```" + sort + "\n(.*?)^```$").matcher(readme);
        while (m.find()) {
            found.add(m.group(1));
        }
        return found;
    }

    /** Each call of the face is named in a table. */
    private static void calls(String readme) {
        StringBuilder tables = new StringBuilder();
        for (String line : readme.split("\n")) {
            if (line.startsWith("|")) {
                tables.append(line).append('\n');
            }
        }
        for (Method m : DebtTable.class.getDeclaredMethods()) {
            if (Modifier.isPublic(m.getModifiers())) {
                boolean isNamed = Pattern.compile("`" + m.getName() + "[`(]").matcher(tables).find();
                Check.isText(m.getName() + " is named", m.getName() + (isNamed ? " is named" : " is not named"));
            }
        }
    }

    private static void example(String readme) throws IOException, InterruptedException {
        List<String> programs = blocks(readme, "java");
        List<String> prints = blocks(readme, "text");
        Check.is(1, programs.size());
        Check.is(1, prints.size());
        try (Copy copy = new Copy()) {
            Files.writeString(copy.project.resolve("Example.java"), programs.get(0));
            Check.is(0, copy.run("javac -Xlint:all -Werror -d out src/main/java/DebtTable.java Example.java"));
            Check.is(0, copy.run("java -cp out Example"));
            Check.isText(prints.get(0), copy.printed());
        }
    }

    /** As they stand, each block in a copy of its own; where the class answers wrongly they must say so. */
    private static void commands(String readme) throws IOException, InterruptedException {
        List<String> told = blocks(readme, "sh");
        Check.is(3, told.size());
        Check.isText(".ci/run\n", told.isEmpty() ? "none" : told.get(0));
        for (String block : told) {
            try (Copy copy = new Copy()) {
                int code = copy.run(block);
                Check.is(0, code);
                if (code != 0) {
                    System.out.println(block + copy.printed());
                }
                // CiRunTest does as much for .ci/run
                if (!block.equals(".ci/run\n")) {
                    breakClass(copy);
                    Check.is(1, copy.run(block));
                }
            }
        }
    }

    private static void breakClass(Copy copy) throws IOException {
        Path main = copy.project.resolve("src/main/java/DebtTable.java");
        String source = Files.readString(main);
        String broken = source.replace("int NONE = -1;", "int NONE = -2;");
        Check.is(false, broken.equals(source));
        Files.writeString(main, broken);
    }
}
