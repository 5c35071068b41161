import java.io.IOException;
import java.nio.file.Files;
import java.nio.file.Path;
import java.util.List;
import java.util.regex.Matcher;
import java.util.regex.Pattern;

/** Rules of LANGUAGE.md that can be seen in the program's text; run from the project's root, as .ci/run does. */
public final class RulesTest {
    private static final String[] RULED_OUT = {
        "\\bpackage\\b", "->", "::", "\\bcatch\\b", "\\btry\\b", "\\bfinally\\b", "\\bsynchronized\\b", "\\bassert\\b",
        "\\bprotected\\b", "\\bstatic\\s*\\{", "\\bdouble\\b", "\\bfloat\\b", "Exact\\(", "\\bNaN\\b", "\\bSystem\\.(?!arraycopy)",
        "\\bRandom\\b", "\\bThread\\b", "\\bhashCode\\b", "\\btoString\\b", "\\[\\]\\s*\\[\\]", "\\bObject\\b", "while \\(true\\)",
        "for \\(;"
    };

    public static void main(String[] args) throws IOException {
        Check check = new Check("rules");
        String program = Files.readString(Path.of("src/main/java/BarberMinutes.java"));
        String code = program.replaceAll("/\\*\\*.*?\\*/|//[^\n]*", "");
        for (String out : RULED_OUT) {
            check.same("has " + out, Pattern.compile(out).matcher(code).find(), false);
        }
        List<String> imports = program.lines().filter(l -> l.startsWith("import")).toList();
        check.same("imports", imports, List.of("import java.util.NoSuchElementException;"));
        check.same("signs", program.chars().allMatch(c -> c == '\n' || c >= 32 && c < 127), true);
        check.same("throws", count(code, "throw new "), 1);
        check.same("some twelve classes", count(code, "\\bclass ") <= 12, true);
        shortMethods(check, code);
        check.end();
    }

    private static int count(String code, String what) {
        return (int) Pattern.compile(what).matcher(code).results().count();
    }

    private static void shortMethods(Check check, String code) {
        Matcher m = Pattern.compile("(?m)^( +)[A-Za-z][^;=\n]*\\(([^;=\n]*)\\)[^;=\n]*\\{\n(?s:.*?)^\\1\\}").matcher(code);
        int found = 0;
        while (m.find()) {
            found++;
            String head = m.group().lines().findFirst().orElse("").trim();
            check.same(head + " is short", m.group().lines().count() <= 60, true);
            check.same(head + " has few parameters", m.group(2).split(",").length <= 7, true);
        }
        check.same("methods are found", found > 100, true);
    }
}
