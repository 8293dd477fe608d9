import java.io.IOException;
import java.lang.reflect.Method;
import java.lang.reflect.Modifier;
import java.nio.file.DirectoryStream;
import java.nio.file.Files;
import java.nio.file.Path;

/** README.md says how to use the class and how to run its tests, and what it shows is so. */
public final class ReadmeTest {

    private static final Due DUE = new Due("ReadmeTest");
    private static final Path TESTS = Path.of("src/test/java");

    public static void main(String[] args) throws IOException {
        String readme = Files.readString(Path.of("README.md"));
        everyCallIsTold(readme);
        everyTestIsTold(readme);
        theExampleIsCompiledHere(readme);
        theExampleAnswersAsItSays();
        DUE.end();
    }

    /** As it is called, with the names of its parameters: | `field(k, i)` | .. | */
    private static void everyCallIsTold(String readme) {
        for (Method method : ImageReader.class.getDeclaredMethods()) {
            if (Modifier.isPublic(method.getModifiers())) {
                int parameters = method.getParameterCount();
                String names = "\\w+(, \\w+)".repeat(Math.min(parameters, 1));
                String row = "\\| `" + method.getName() + "\\(" + names
                    + (parameters > 0 ? "{" + (parameters - 1) + "}" : "") + "\\)` \\| .+ \\|";
                DUE.isTrue("a row of README.md tells " + method.getName(),
                    readme.lines().anyMatch(line -> line.matches(row)));
            }
        }
    }

    private static void everyTestIsTold(String readme) throws IOException {
        DUE.isTrue("README.md tells .ci/run", readme.contains("    .ci/run\n"));
        int tests = 0;
        try (DirectoryStream<Path> files = Files.newDirectoryStream(TESTS, "*.java")) {
            for (Path file : files) {
                tests++;
                String name = file.getFileName().toString().replace(".java", "");
                DUE.isTrue("README.md tells " + name, readme.contains("`" + name + "`"));
            }
        }
        DUE.isTrue("there are tests", tests > 0);
    }

    private static void theExampleIsCompiledHere(String readme) throws IOException {
        String example = Files.readString(TESTS.resolve("Example.java"));
        int from = readme.indexOf("```java\n") + "```java\n".length();
        int to = readme.indexOf("```", from);
        DUE.isTrue("README.md shows an example", to > from && from > 8);
        if (to > from) {
            String shown = readme.substring(from, to).indent(4).replaceAll("(?m)^ +$", "");
            DUE.isTrue("Example has what README.md shows", example.contains(shown));
        }
    }

    private static void theExampleAnswersAsItSays() {
        Model model = Model.small();
        int left = Model.SMALL_COUNT - 1;
        DUE.isText("Example.told of an image", Example.told(model.bytes()),
            left + " of " + Model.SMALL_COUNT + " objects are reachable; the same: true");
        model.w = 19;
        DUE.isText("Example.told of an ill one", Example.told(model.bytes()), "refused at byte 4");
        DUE.isText("Example.told of none", Example.told(new byte[0]), "refused at byte 0");
    }
}
