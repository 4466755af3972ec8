import java.net.URL;
import java.net.URLClassLoader;
import java.nio.file.Files;
import java.nio.file.Path;
import java.util.ArrayList;
import java.util.List;
import java.util.Set;
import java.util.TreeSet;
import java.util.regex.Matcher;
import java.util.regex.Pattern;
import java.util.stream.Stream;
import javax.tools.ToolProvider;

/** What README.md says of the class and its tests holds as it stands. */
public final class ReadmeTests {
    /** A line that makes a call, keeps its answer or not, and tells it. */
    private static final Pattern ANSWERED = Pattern.compile("(?:int (\\w+) = )?(game\\..*\\));\\s*// (-?\\d+|true)(?:: .*)?");

    public static void main(String[] args) throws Exception {
        String readme = Files.readString(Path.of("README.md"));
        example(between(readme, "```java\n", "```"));
        namesOfTests(between(readme, "## Tests", "## Where"));
        namesOfClasses(between(readme, "## How it is built", "## Tests"));
        Due.end();
    }

    private static String between(String text, String first, String last) {
        int from = text.indexOf(first);
        int to = from < 0 ? -1 : text.indexOf(last, from + first.length());
        Due.is("README.md has " + first.strip() + " and then " + last, to >= 0, true);
        return to < 0 ? "" : text.substring(from + first.length(), to);
    }

    /** The example is compiled as it stands, but that each answer that is told is kept, and held against what was told. */
    private static void example(String code) throws Exception {
        List<String> calls = new ArrayList<>();
        List<String> due = new ArrayList<>();
        StringBuilder body = new StringBuilder();
        for (String line : code.split("\n")) {
            Matcher told = ANSWERED.matcher(line);
            if (told.matches()) {
                String kept = told.group(1) == null ? "answer" + calls.size() : told.group(1);
                body.append("var ").append(kept).append(" = ").append(told.group(2)).append(";\n");
                body.append("answers.add(\"\" + ").append(kept).append(");\n");
                calls.add(told.group(2));
                due.add(told.group(3));
            } else {
                body.append(line).append('\n');
            }
        }
        Due.is("calls whose answers are told", calls.size(), 22);
        wordsOfTheTape(code);
        List<?> got = run(body.toString());
        for (int n = 0; n < got.size(); n++) {
            Due.is(calls.get(n) + " answered " + got.get(n) + ", told is " + due.get(n), got.get(n).equals(due.get(n)), true);
        }
    }

    private static void wordsOfTheTape(String code) {
        StringBuilder fed = new StringBuilder();
        Matcher four = Pattern.compile("0x(\\w{8})").matcher(code);
        while (four.find()) {
            for (int n = 0; n < 8; n += 2) {
                fed.append((char) Integer.parseInt(four.group(1).substring(n, n + 2), 16));
            }
        }
        Matcher words = Pattern.compile("first: \"(.*)\"").matcher(code);
        Due.is("the text's words are told", words.find(), true);
        Due.is("they are what is fed, " + fed, fed.toString().equals(words.group(1) + "///////"), true);
    }

    private static List<?> run(String body) throws Exception {
        Path place = Files.createTempDirectory("readme");
        Path file = place.resolve("Example.java");
        Files.writeString(file, "public final class Example {\npublic static java.util.List<String> run() {\n"
                + "var answers = new java.util.ArrayList<String>();\n" + body + "return answers;\n}\n}\n");
        int fault = ToolProvider.getSystemJavaCompiler().run(null, null, null, "--release", "17", "-cp",
                System.getProperty("java.class.path"), "-d", place.toString(), file.toString());
        Due.is("compiling the example", fault, 0);
        List<?> answers = List.of();
        if (fault == 0) {
            try (URLClassLoader loader = new URLClassLoader(new URL[] {place.toUri().toURL()})) {
                answers = (List<?>) loader.loadClass("Example").getMethod("run").invoke(null);
            }
        }
        Files.deleteIfExists(place.resolve("Example.class"));
        Files.delete(file);
        Files.delete(place);
        return answers;
    }

    private static void namesOfTests(String part) throws Exception {
        Set<String> told = new TreeSet<>();
        Matcher row = Pattern.compile("(?m)^\\| `(\\w+)` \\|").matcher(part);
        while (row.find()) {
            told.add(row.group(1));
        }
        Set<String> there = new TreeSet<>();
        try (Stream<Path> files = Files.list(Path.of("src/test/java"))) {
            files.forEach(file -> there.add(file.getFileName().toString().replace(".java", "")));
        }
        Due.is("tests told " + told + ", there are " + there, told.equals(there), true);
        for (String helper : new String[] {"Due", "Seen", "Model"}) {
            Due.is("`" + helper + " is told", part.contains(helper), true);
            Due.is(helper + " is there", Files.exists(Path.of("src/test/support/" + helper + ".java")), true);
        }
    }

    private static void namesOfClasses(String part) {
        Set<String> inside = new TreeSet<>();
        for (Class<?> one : TunerGame.class.getDeclaredClasses()) {
            inside.add(one.getSimpleName());
        }
        int names = 0;
        Matcher name = Pattern.compile("`([A-Z]\\w+)`").matcher(part);
        while (name.find()) {
            names++;
            Due.is("a class " + name.group(1), inside.contains(name.group(1)), true);
        }
        Due.is("classes are told", names > 0, true);
    }
}
