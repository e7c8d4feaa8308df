import java.io.IOException;
import java.nio.file.Files;
import java.nio.file.Path;
import java.util.List;
import java.util.regex.Matcher;
import java.util.regex.Pattern;

/** What LANGUAGE.md rules out and a look at the source can find. */
public final class LanguageTest {
    private static final Check CHECK = new Check();
    private static final Path SOURCE = Path.of("src", "main", "java", "CureTown.java");
    private static final String[] RULED_OUT = {"\\bthrow\\b", "\\bthrows\\b", "\\btry\\b", "\\bcatch\\b", "\\bfinally\\b",
        "\\bsynchronized\\b", "\\bassert\\b", "\\bpackage\\b", "\\bstatic\\s*\\{", "->", "::", "Exact\\s*\\(",
        "\\bprotected\\b", "\\bnative\\b", "\\bvolatile\\b", "\\bvar\\b", "System\\.(?!arraycopy)", "\\bRandom\\b",
        "\\bThread\\b", "\\bMath\\.random\\b", "\\bObject\\b", "@"};

    public static void main(String[] args) throws IOException {
        String code = withoutComments(Files.readString(SOURCE));
        for (String pattern : RULED_OUT) {
            Matcher m = Pattern.compile(pattern).matcher(code);
            CHECK.due("the source has " + pattern, m.find(), false);
        }
        imports(code);
        methodsAreShort(Files.readAllLines(SOURCE));
        CHECK.finish();
    }

    private static String withoutComments(String code) {
        return code.replaceAll("(?s)/\\*.*?\\*/", " ").replaceAll("//[^\\n]*", " ");
    }

    private static void imports(String code) {
        Matcher m = Pattern.compile("import\\s+([\\w.*]+)").matcher(code);
        while (m.find()) {
            boolean listed = m.group(1).matches("java\\.util\\.(Arrays|ArrayList|List|Iterator)");
            CHECK.due("import of " + m.group(1) + " is listed", listed, true);
        }
    }

    /** A method opens on a line that ends in ") {" right inside a class and ends on the brace below its first letter. */
    private static void methodsAreShort(List<String> lines) {
        for (int i = 0; i < lines.size(); i++) {
            Matcher m = Pattern.compile("^( {4}| {8})(?! |(?:if|for|while|switch)\\b)[\\w\\[\\]<> ]+\\(.*\\) \\{$").matcher(lines.get(i));
            if (!m.matches()) {
                continue;
            }
            int length = lines.subList(i, lines.size()).indexOf(m.group(1) + "}");
            CHECK.due("lines of '" + lines.get(i).trim() + "' are found and few", length > 0 && length <= 60, true);
        }
    }
}
