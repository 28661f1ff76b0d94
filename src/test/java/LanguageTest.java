import java.io.IOException;
import java.nio.file.Files;
import java.nio.file.Path;
import java.util.List;
import java.util.regex.Matcher;
import java.util.regex.Pattern;

/** Rules of LANGUAGE.md that can be seen in the source line by line. */
final class LanguageTest {
    private static final Path SOURCE = Path.of("src/main/java/LetterOunces.java");

    /** Rules 2, 3, 4, 6, 13: what may not stand in the source at all. */
    private static final String[] FORBIDDEN = {"\\bimport\\b", "\\bpackage\\b", "\\bthrows?\\b", "\\btry\\b",
        "\\bcatch\\b", "\\bsynchronized\\b", "\\bassert\\b", "->", "::", "Exact\\(", "\\bvar\\b", "\\bObject\\b",
        "\\bSystem\\.(?!arraycopy)", "\\bException\\b", "\\bequals\\b", "\\bhashCode\\b", "\\btoString\\b",
        "\\bstatic\\s*\\{", "\\bprotected\\b", "@", "\\bRandom\\b", "\\bThread\\b"};

    private final Check check = new Check();

    public static void main(String[] args) throws IOException {
        LanguageTest test = new LanguageTest();
        String code = withoutComments(Files.readString(SOURCE));
        test.forbidden(code);
        test.methods(code.lines().toList());
        test.staticFieldsAreFinal(code);
        test.classes(code);
        test.check.end();
    }

    private static String withoutComments(String source) {
        return source.replaceAll("(?s)/\\*.*?\\*/", "").replaceAll("//[^\n]*", "");
    }

    private static int matches(String pattern, String code) {
        Matcher m = Pattern.compile(pattern).matcher(code);
        int many = 0;
        while (m.find()) {
            many++;
        }
        return many;
    }

    private void forbidden(String code) {
        for (String pattern : FORBIDDEN) {
            check.due("rules 2, 3, 4, 6, 13: " + pattern, matches(pattern, code), 0);
        }
    }

    /** Rule 11: seven parameters at most, some sixty lines. */
    private void methods(List<String> lines) {
        Pattern head = Pattern.compile("^( {4}| {8})[A-Za-z].*?(\\w+)\\((.*)\\) \\{$");
        int methods = 0;
        for (int i = 0; i < lines.size(); i++) {
            Matcher m = head.matcher(lines.get(i));
            if (m.matches() && !m.group(0).contains(" class ")) {
                methods++;
                int end = i;
                while (end < lines.size() && !lines.get(end).equals(m.group(1) + "}")) {
                    end++;
                }
                check.due("rule 11: lines of " + m.group(2), end - i > 60 ? end - i : 0, 0);
                int parameters = m.group(3).split(",").length;
                check.due("rule 11: parameters of " + m.group(2), parameters > 7 ? parameters : 0, 0);
            }
        }
        check.due("methods were seen", methods > 60 ? 1 : 0, 1);
    }

    /** Rule 5. */
    private void staticFieldsAreFinal(String code) {
        check.due("rule 5: static fields that are not final",
                matches("\\bstatic (?!final|boolean \\w+\\(|int \\w+\\(|void \\w+\\(|class)", code), 0);
    }

    private void classes(String code) {
        check.due("rule 11: classes", Math.max(matches("\\bclass \\w+", code), 12), 12);
        check.due("rule 1: classes inside are static and private",
                matches("private static final class \\w+", code), matches("\\bclass \\w+", code) - 1);
    }
}
