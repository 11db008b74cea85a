import java.io.IOException;
import java.nio.file.Files;
import java.nio.file.Path;
import java.util.List;
import java.util.regex.Matcher;
import java.util.regex.Pattern;

/** What of LANGUAGE.md can be read off the text of the class. */
public final class LanguageTest {
    private static final String[] FORBIDDEN = {
        "->", "::", "\\bcatch\\b", "\\btry\\b", "\\bfinally\\b", "\\bsynchronized\\b", "\\bassert\\b",
        "\\bprotected\\b", "\\bpackage\\b", "\\bSystem\\.(?!arraycopy)", "\\bThread\\b", "\\bRandom\\b",
        "Exact\\(", "\\bdo\\s*\\{", "\\bMath\\.(?!max|min|abs)", "\\bhashCode\\b", "\\bequals\\b", "\\btoString\\b",
        "\\bstatic\\s*\\{", "\\bvar\\b", "\\bnull\\b", "\\bimport (?!java.util.NoSuchElementException;)", "\\bnew \\w+\\(\"",
        "[^\\x00-\\x7f]"};

    public static void main(String[] args) throws IOException {
        Check check = new Check("LanguageTest");
        List<String> lines = Files.readAllLines(Path.of("src/main/java/Coppertrace.java"));
        for (String forbidden : FORBIDDEN) {
            Pattern pattern = Pattern.compile(forbidden);
            for (String line : lines) {
                check.same(forbidden + " in: " + line.strip(), pattern.matcher(withoutComment(line)).find(), false);
            }
        }
        checkMethods(check, lines);
        checkClasses(check, lines);
        System.exit(check.end());
    }

    private static String withoutComment(String line) {
        String stripped = line.strip();
        return stripped.startsWith("*") || stripped.startsWith("/") ? "" : line.replaceAll("//.*", "");
    }

    /** Methods begin at the depth of one or two classes; their brace closes at the same depth. */
    private static void checkMethods(Check check, List<String> lines) {
        Pattern head = Pattern.compile("^( {4}| {8})(?:public |private |static )*\\w+(?:\\[\\])? ?\\w*\\(([^)]*)\\)");
        for (int at = 0; at < lines.size(); at++) {
            Matcher matcher = head.matcher(lines.get(at));
            if (!matcher.find()) {
                continue;
            }
            int end = at;
            while (!lines.get(end).equals(matcher.group(1) + "}")) {
                end++;
            }
            check.same("a method of 60 lines at most: " + lines.get(at).strip(), end - at < 60, true);
            check.same("seven parameters at most: " + lines.get(at).strip(), matcher.group(2).split(",").length <= 7, true);
        }
    }

    private static void checkClasses(Check check, List<String> lines) {
        int classes = 0;
        int fields = 0;
        for (String line : lines) {
            if (line.matches(".*\\bclass \\w+ \\{")) {
                classes++;
                fields = 0;
            } else if (line.matches(" {4,8}(?:private )?(?:final )?\\w+(?:\\[\\])? \\w+(?: = new [^(]*)?;")) {
                fields++;
                check.same("twenty fields at most, with " + line.strip(), fields <= 20, true);
            }
        }
        check.same("twelve classes at most, and some", classes <= 12 && classes > 1, true);
    }
}
