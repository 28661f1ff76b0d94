import java.io.IOException;
import java.nio.file.Files;
import java.nio.file.Path;
import java.util.HashMap;
import java.util.List;
import java.util.Map;
import java.util.Set;
import java.util.TreeSet;
import java.util.regex.Matcher;
import java.util.regex.Pattern;

/** Rules of LANGUAGE.md that can be seen in the source line by line. */
final class LanguageTest {
    private static final Path SOURCE = Path.of("src/main/java/LetterOunces.java");

    /** Rules 2, 3, 4, 6, 13: what may not stand in the source at all. */
    private static final String[] FORBIDDEN = {"\\bimport\\b", "\\bpackage\\b", "\\bthrows?\\b", "\\btry\\b",
        "\\bcatch\\b", "\\bsynchronized\\b", "\\bassert\\b", "->", "::", "Exact\\(", "\\bvar\\b", "\\bObject\\b",
        "\\bSystem\\.(?!arraycopy)", "\\bException\\b", "\\bequals\\b", "\\bhashCode\\b", "\\btoString\\b",
        "\\bstatic\\s*\\{", "\\bprotected\\b", "@", "\\bRandom\\b", "\\bThread\\b"};

    /** Rule 4: what the source uses of the library; more of what the rule lists may come in here. */
    private static final Set<String> LIBRARY = Set.of("Math.min", "Math.max", "Integer.bitCount",
            "Integer.numberOfTrailingZeros", "System.arraycopy");

    private static final Pattern HEAD = Pattern.compile(
            "^( {4}| {8})(?:(?:public|private|static|final) )*(?:[\\w\\[\\]]+ )?(\\w+)\\((.*)\\) \\{$");

    private final Check check = new Check();

    public static void main(String[] args) throws IOException {
        LanguageTest test = new LanguageTest();
        String code = withoutComments(Files.readString(SOURCE));
        test.forbidden(code);
        test.methods(code.lines().toList());
        test.staticFieldsAreFinal(code);
        test.classes(code);
        test.library(code);
        test.depth(code.lines().toList());
        test.check.end();
    }

    private static String withoutComments(String source) {
        return source.replaceAll("(?s)/\\*.*?\\*/", "").replaceAll("//[^\n]*", "");
    }

    private static int matches(String pattern, String code) {
        Matcher m = Pattern.compile(pattern).matcher(code);
        int many = 0;
        while (m.find()) {
            many++;
        }
        return many;
    }

    private void forbidden(String code) {
        for (String pattern : FORBIDDEN) {
            check.due("rules 2, 3, 4, 6, 13: " + pattern, matches(pattern, code), 0);
        }
    }

    /** Rule 11: seven parameters at most, some sixty lines. */
    private void methods(List<String> lines) {
        int methods = 0;
        for (int i = 0; i < lines.size(); i++) {
            Matcher m = HEAD.matcher(lines.get(i));
            if (m.matches()) {
                methods++;
                int end = i;
                while (end < lines.size() && !lines.get(end).equals(m.group(1) + "}")) {
                    end++;
                }
                check.due("rule 11: lines of " + m.group(2), end - i > 60 ? end - i : 0, 0);
                int parameters = m.group(3).split(",").length;
                check.due("rule 11: parameters of " + m.group(2), parameters > 7 ? parameters : 0, 0);
            }
        }
        check.due("methods were seen", methods > 60 ? 1 : 0, 1);
    }

    /** Rule 5. */
    private void staticFieldsAreFinal(String code) {
        check.due("rule 5: static fields that are not final",
                matches("\\bstatic (?!final|boolean \\w+\\(|int \\w+\\(|void \\w+\\(|class)", code), 0);
    }

    private void classes(String code) {
        check.due("rule 11: classes", Math.max(matches("\\bclass \\w+", code), 12), 12);
        check.due("rule 1: classes inside are static and private",
                matches("private static final class \\w+", code), matches("\\bclass \\w+", code) - 1);
    }

    private static Set<String> all(String pattern, String code) {
        Set<String> all = new TreeSet<>();
        Matcher m = Pattern.compile(pattern).matcher(code);
        while (m.find()) {
            all.add(m.group(1));
        }
        return all;
    }

    /** Rules 3 and 4: of the library what is listed alone, no texts, and new objects of its own classes. */
    private void library(String code) {
        Set<String> own = all("\\bclass (\\w+)", code);
        for (String call : all("\\b([A-Z][a-z]\\w*\\.\\w+)\\(", code)) {
            boolean isOwn = own.contains(call.substring(0, call.indexOf('.')));
            check.due("rule 4: " + call, isOwn || LIBRARY.contains(call) ? 1 : 0, 1);
        }
        for (String made : all("\\bnew (\\w+)", code)) {
            check.due("rule 3: new " + made, own.contains(made) || made.equals("int") ? 1 : 0, 1);
        }
        check.due("rule 3: texts", matches("\"", code), 0);
    }

    /** Rule 11: calls that are no recursion go at most eight deep. Each method's name is its own, so names tell. */
    private void depth(List<String> lines) {
        Map<String, String> bodies = new HashMap<>();
        String name = "";
        for (String line : lines) {
            Matcher m = HEAD.matcher(line);
            if (m.matches()) {
                name = m.group(2);
                check.due("methods named " + name, bodies.containsKey(name) ? 2 : 1, 1);
                bodies.put(name, "");
            } else {
                bodies.computeIfPresent(name, (k, body) -> body + line + "\n");
            }
        }
        for (String called : bodies.keySet()) {
            int deep = depth(called, bodies, Set.of());
            check.due("rule 11: calls deep of " + called, Math.max(deep, 8), 8);
        }
        check.due("the deepest calls were seen", depth("slips", bodies, Set.of()) >= 5 ? 1 : 0, 1);
    }

    private static int depth(String name, Map<String, String> bodies, Set<String> open) {
        int deepest = 0;
        Set<String> within = new TreeSet<>(open);
        within.add(name);
        for (String called : all("\\b(\\w+)\\(", bodies.get(name))) {
            if (bodies.containsKey(called) && !within.contains(called)) {
                deepest = Math.max(deepest, depth(called, bodies, within));
            }
        }
        return deepest + 1;
    }
}
