import java.io.File;
import java.io.IOException;
import java.lang.reflect.Method;
import java.lang.reflect.Modifier;
import java.net.URL;
import java.net.URLClassLoader;
import java.nio.file.Files;
import java.nio.file.Path;
import java.util.Set;
import java.util.TreeSet;
import java.util.regex.Matcher;
import java.util.regex.Pattern;
import javax.tools.ToolProvider;

/** What README.md says is so: its example, the methods and the tests that it names. */
public final class ReadmeTest {
    private static final Check CHECK = new Check();
    private static final Path TESTS = Path.of("src", "test", "java");
    // A line of the example that says its answer: the name, then what stands first behind the comment's sign.
    private static final Pattern ANSWER = Pattern.compile("(?:int|boolean) (\\w+) = .*; // (-?\\d+|true|false)\\b.*");

    public static void main(String[] args) throws IOException, ReflectiveOperationException {
        String readme = Files.readString(Path.of("README.md"));
        exampleAnswersWhatItSays(part(readme, "```java\n", "```"));
        everyMethodIsNamed(readme);
        testsAreNamed(readme);
        CHECK.finish();
    }

    private static String part(String text, String opening, String closing) {
        int from = text.indexOf(opening) + opening.length();
        return text.substring(from, text.indexOf(closing, from));
    }

    private static void exampleAnswersWhatItSays(String example) throws IOException, ReflectiveOperationException {
        StringBuilder code = new StringBuilder("public final class Example {\n    public static int[] answers() {\n");
        StringBuilder answers = new StringBuilder();
        StringBuilder due = new StringBuilder();
        for (String line : example.split("\n")) {
            code.append(line).append('\n');
            Matcher m = ANSWER.matcher(line);
            boolean isCall = line.contains(" = town.");
            CHECK.due("'" + line + "' says its answer", m.matches(), isCall);
            if (m.matches()) {
                boolean isNumber = line.startsWith("int");
                answers.append(isNumber ? m.group(1) : m.group(1) + " ? 1 : 0").append(", ");
                due.append(isNumber ? m.group(2) : m.group(2).equals("true") ? "1" : "0").append(' ');
            }
        }
        code.append("return new int[] {").append(answers).append("};\n    }\n}\n");
        int[] got = answersOf(code.toString());
        String[] want = due.toString().trim().split(" ");
        String[] names = answers.toString().split(", ");
        CHECK.due("the example's answers", got.length, want.length);
        for (int i = 0; i < got.length; i++) {
            CHECK.due("the example's " + names[i], got[i], Integer.parseInt(want[i]));
        }
    }

    private static int[] answersOf(String code) throws IOException, ReflectiveOperationException {
        Path folder = Files.createTempDirectory("readme");
        Path source = folder.resolve("Example.java");
        try {
            Files.writeString(source, code);
            String classes = System.getProperty("java.class.path");
            int refused = ToolProvider.getSystemJavaCompiler()
                .run(null, null, null, "-cp", classes, "-d", folder.toString(), source.toString());
            CHECK.due("javac of the example", refused, 0);
            if (refused != 0) {
                return new int[0];
            }
            try (URLClassLoader loader = new URLClassLoader(new URL[] {folder.toUri().toURL()})) {
                return (int[]) loader.loadClass("Example").getMethod("answers").invoke(null);
            }
        } finally {
            Files.deleteIfExists(source);
            Files.deleteIfExists(folder.resolve("Example.class"));
            Files.deleteIfExists(folder);
        }
    }

    private static void everyMethodIsNamed(String readme) {
        for (Method m : CureTown.class.getDeclaredMethods()) {
            if (Modifier.isPublic(m.getModifiers())) {
                CHECK.due("README.md names " + m.getName(), readme.contains("`" + m.getName() + "`"), true);
            }
        }
    }

    private static void testsAreNamed(String readme) {
        Set<String> there = new TreeSet<>();
        for (File file : TESTS.toFile().listFiles()) {
            if (file.getName().endsWith("Test.java")) {
                there.add(file.getName().replace(".java", ""));
            }
        }
        Set<String> named = new TreeSet<>();
        Matcher m = Pattern.compile("\\b\\w+Test\\b").matcher(readme);
        while (m.find()) {
            named.add(m.group());
        }
        CHECK.due("tests that README.md names, " + named + ", are those of " + there, named.equals(there), true);
    }
}
