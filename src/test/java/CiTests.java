import java.io.IOException;
import java.nio.charset.StandardCharsets;
import java.nio.file.Files;
import java.nio.file.Path;
import java.util.Comparator;
import java.util.stream.Stream;

/** What README.md says of .ci/run, by a copy of it in a project of a few lines, whose class is empty. */
public final class CiTests {
    private static final String CLASS = "public final class TunerGame { public static final int NONE = -1; }";

    private final Path place;
    private String printed = "";

    private CiTests() throws IOException {
        place = Files.createTempDirectory("ci");
        Path script = place.resolve("main/.ci/run");
        Files.createDirectories(script.getParent());
        Files.copy(Path.of(".ci/run"), script);
        write("main/src/main/java/TunerGame.java", CLASS);
        write("main/src/test/support/Shared.java", "final class Shared { static final int END = TunerGame.NONE + 1; }");
        test("main/src/test/java/", "First", "Shared.END");
        test("shared/tests/", "Second", "TunerGame.NONE + 1");
    }

    public static void main(String[] args) throws Exception {
        allPass();
        oneFails("main/src/test/java/", "1");
        oneFails("shared/tests/", "1");
        oneFails("shared/tests/", "noSuchName");
        classIsNotCompiled(CLASS.replace("}", "int size(java.util.List all) { return all.size(); } }"));
        nothingShared();
        Due.end();
    }

    private void write(String file, String text) throws IOException {
        Path path = place.resolve(file);
        Files.createDirectories(path.getParent());
        Files.writeString(path, text + "\n");
    }

    /** A test that tells that it ran and ends with a code. */
    private void test(String directory, String name, String code) throws IOException {
        write(directory + name + ".java", "public final class " + name + " { public static void main(String[] args) {"
                + " System.out.println(\"ran " + name + "\"); System.exit(" + code + "); } }");
    }

    /** Called from another directory than the project's; by sh, since a place for such copies may run none itself. */
    private int run() throws Exception {
        Path output = place.resolve("output");
        Process process = new ProcessBuilder("sh", place.resolve("main/.ci/run").toString())
                .directory(place.toFile()).redirectErrorStream(true).redirectOutput(output.toFile()).start();
        int code = process.waitFor();
        printed = Files.readString(output, StandardCharsets.ISO_8859_1);
        return code;
    }

    private void ran(String name, boolean want) {
        Due.is("ran " + name + ", as told by\n" + printed, printed.contains("ran " + name), want);
    }

    private void end() throws IOException {
        try (Stream<Path> all = Files.walk(place)) {
            for (Path path : all.sorted(Comparator.reverseOrder()).toList()) {
                Files.delete(path);
            }
        }
    }

    private static void allPass() throws Exception {
        CiTests ci = new CiTests();
        Due.is("0 if all pass", ci.run(), 0);
        ci.ran("First", true);
        ci.ran("Second", true);
        ci.end();
    }

    private static void oneFails(String directory, String code) throws Exception {
        CiTests ci = new CiTests();
        ci.test(directory, "Failing", code);
        Due.is("1 if one fails or can't be compiled: " + directory + ", " + code, ci.run(), 1);
        ci.ran("First", true);
        ci.ran("Second", true);
        ci.end();
    }

    private static void classIsNotCompiled(String text) throws Exception {
        CiTests ci = new CiTests();
        ci.write("main/src/main/java/TunerGame.java", text);
        Due.is("1 if the class can't be compiled without a warning", ci.run(), 1);
        ci.ran("First", false);
        ci.end();
    }

    private static void nothingShared() throws Exception {
        CiTests ci = new CiTests();
        Files.delete(ci.place.resolve("shared/tests/Second.java"));
        Files.delete(ci.place.resolve("shared/tests"));
        Due.is("1 without ../shared/tests", ci.run(), 1);
        ci.end();
    }
}
