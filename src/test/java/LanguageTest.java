import java.io.IOException;
import java.nio.file.Files;
import java.nio.file.Path;
import java.util.ArrayList;
import java.util.List;
import java.util.Map;
import java.util.Set;
import java.util.TreeMap;
import java.util.TreeSet;
import java.util.regex.Matcher;
import java.util.regex.Pattern;

/** What of LANGUAGE.md can be read off the text of the class. */
public final class LanguageTest {
    private static final String[] FORBIDDEN = {
        "->", "::", "\\bcatch\\b", "\\btry\\b", "\\bfinally\\b", "\\bsynchronized\\b", "\\bassert\\b",
        "\\bprotected\\b", "\\bpackage\\b", "\\bSystem\\.(?!arraycopy)", "\\bThread\\b", "\\bRandom\\b",
        "Exact\\(", "\\bdo\\s*\\{", "\\bMath\\.(?!max|min|abs)", "\\bhashCode\\b", "\\bequals\\b", "\\btoString\\b",
        "\\bstatic\\s*\\{", "\\bvar\\b", "\\bnull\\b", "\\bimport (?!java.util.NoSuchElementException;)", "\\bnew \\w+\\(\"",
        "[^\\x00-\\x7f]"};
    /** Far beyond eight. */
    private static final int COMES_ROUND = 100;

    public static void main(String[] args) throws IOException {
        Check check = new Check("LanguageTest");
        List<String> lines = Files.readAllLines(Path.of("src/main/java/Coppertrace.java"));
        for (String forbidden : FORBIDDEN) {
            Pattern pattern = Pattern.compile(forbidden);
            for (String line : lines) {
                check.same(forbidden + " in: " + line.strip(), pattern.matcher(withoutComment(line)).find(), false);
            }
        }
        List<Method> methods = methodsIn(lines);
        checkMethods(check, methods);
        checkDepth(check, methods);
        checkClasses(check, lines);
        System.exit(check.end());
    }

    private static String withoutComment(String line) {
        String stripped = line.strip();
        return stripped.startsWith("*") || stripped.startsWith("/") ? "" : line.replaceAll("//.*", "");
    }

    /** A method or a constructor, with its indent, its sight, its name and its parameters. */
    private static final Pattern HEAD = Pattern.compile("^( {4}| {8})(public |private )?(?:static )?"
            + "(?:\\w+(?:\\[\\])? )?(\\w+)\\(([^)]*)\\)(?: throws [\\w, ]+)?(?: \\{)?$");

    /** A method begins at the depth of one or two classes; its brace closes at the same depth. */
    private record Method(String name, boolean isPublic, int parameters, List<String> body) {
    }

    private static List<Method> methodsIn(List<String> lines) {
        List<Method> methods = new ArrayList<>();
        for (int at = 0; at < lines.size(); at++) {
            Matcher matcher = HEAD.matcher(lines.get(at));
            if (matcher.find()) {
                int end = at + 1;
                while (!lines.get(end).equals(matcher.group(1) + "}")) {
                    end++;
                }
                methods.add(new Method(matcher.group(3), "public ".equals(matcher.group(2)),
                        matcher.group(4).split(",").length, lines.subList(at + 1, end)));
            }
        }
        return methods;
    }

    private static void checkMethods(Check check, List<Method> methods) {
        Set<String> face = new TreeSet<>();
        for (Method method : methods) {
            if (method.isPublic()) {
                face.add(method.name());
            }
        }
        for (Method method : methods) {
            String name = method.name();
            check.same("a method of 60 lines at most: " + name, method.body().size() < 60, true);
            check.same("seven parameters at most: " + name, method.parameters() <= 7, true);
            if (!method.isPublic()) {
                check.same("a name that no public method bears: " + name, face.contains(name), false);
            }
        }
        check.same("the methods of the face were found, with the constructor", face.size(), 40);
        check.same("other methods were found", methods.size() > 120, true);
    }

    /** Methods of one name count as one that makes the calls of all, so no call is overlooked. */
    private static void checkDepth(Check check, List<Method> methods) {
        Map<String, Set<String>> calls = new TreeMap<>();
        Pattern call = Pattern.compile("(?<!new )\\b(\\w+)\\(");
        for (Method method : methods) {
            Set<String> called = calls.computeIfAbsent(method.name(), name -> new TreeSet<>());
            for (String line : method.body()) {
                Matcher found = call.matcher(withoutComment(line));
                while (found.find()) {
                    called.add(found.group(1));
                }
            }
        }
        for (String name : calls.keySet()) {
            int depth = depthOf(name, calls, new ArrayList<>());
            check.same("calls eight deep at most, and none that comes round again, from " + name, depth <= 8, true);
        }
        int routeAll = depthOf("routeAll", calls, new ArrayList<>());
        check.same("the dearest call is as deep as was counted by hand", routeAll, 8);
    }

    private static int depthOf(String name, Map<String, Set<String>> calls, List<String> above) {
        if (above.contains(name)) {
            return COMES_ROUND;
        }
        above.add(name);
        int most = 0;
        for (String called : calls.getOrDefault(name, Set.of())) {
            most = Math.max(most, depthOf(called, calls, above));
        }
        above.remove(name);
        return most + 1;
    }

    private static void checkClasses(Check check, List<String> lines) {
        int classes = 0;
        int fields = 0;
        for (String line : lines) {
            if (line.matches(".*\\bclass \\w+ \\{")) {
                classes++;
                fields = 0;
            } else if (line.matches(" {4,8}(?:private )?(?:final )?\\w+(?:\\[\\])? \\w+(?: = new [^(]*)?;")) {
                fields++;
                check.same("twenty fields at most, with " + line.strip(), fields <= 20, true);
            }
        }
        check.same("twelve classes at most, and some", classes <= 12 && classes > 1, true);
    }
}
