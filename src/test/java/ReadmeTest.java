import java.io.IOException;
import java.lang.reflect.Method;
import java.lang.reflect.Modifier;
import java.nio.file.DirectoryStream;
import java.nio.file.Files;
import java.nio.file.Path;

/** README.md: its example does what it tells, and it names every call, option, code and test. */
public final class ReadmeTest {
    private static final Path TESTS = Path.of("src/test/java");

    public static void main(String[] args) throws IOException {
        String page = Files.readString(Path.of("README.md"));
        example();
        exampleIsThatOfThePage(page);
        everyCall(page);
        everyOptionAndCode(page);
        everyTest(page);
        Check.finish();
    }

    private static void example() {
        ReplacementWriter writer = new ReplacementWriter(0);
        writer.groups(1);
        writer.feed(0x776F726C, 0x64000000, 0, 0, 0);
        writer.end(5);
        writer.set(1);
        writer.feed(0x48692C20, 0x5C552431, 0x21000000, 0, 0);
        writer.end(9);
        int length = writer.write(512);
        int first = writer.result(0);
        Check.same("length", length, 10);
        Check.same("first", first, 'H');
        StringBuilder written = new StringBuilder();
        for (int i = 0; i < length; i++) {
            written.append((char) writer.result(i));
        }
        Check.sameText("the example", written.toString(), "Hi, WORLD!");
    }

    private static void names(String page, String words) {
        Check.same("README.md has " + words, page.contains(words) ? 1 : 0, 1);
    }

    private static void exampleIsThatOfThePage(String page) throws IOException {
        String own = Files.readString(TESTS.resolve("ReadmeTest.java"));
        String block = page.split("```java\n")[1].split("```")[0];
        for (String line : block.split("\n")) {
            String code = line.split("//")[0].trim();
            Check.same("the example here has " + code, own.contains("        " + code + "\n") ? 1 : 0, 1);
        }
    }

    private static void everyCall(String page) {
        names(page, "| `ReplacementWriter(int mode)` |");
        for (Method method : ReplacementWriter.class.getDeclaredMethods()) {
            if (Modifier.isPublic(method.getModifiers())) {
                names(page, "| `" + method.getReturnType() + " " + method.getName() + "(");
            }
        }
    }

    private static void everyOptionAndCode(String page) {
        String[] rows = {"512 RICH", "1024 EMPTY", "2048 UNKNOWN", "4096 PLAIN", "-3", "-35", "-48", "-49", "-55", "-57", "-58"};
        for (String row : rows) {
            names(page, "\n| " + row + " |");
        }
    }

    private static void everyTest(String page) throws IOException {
        try (DirectoryStream<Path> tests = Files.newDirectoryStream(TESTS, "*Test.java")) {
            for (Path test : tests) {
                names(page, "| `" + test.getFileName().toString().replace(".java", "") + "` |");
            }
        }
    }
}
