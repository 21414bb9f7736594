import java.io.IOException;
import java.nio.file.Files;
import java.nio.file.Path;
import java.util.List;
import java.util.regex.Matcher;
import java.util.regex.Pattern;

/** The rules of ../shared/LANGUAGE.md that can be seen from the source's words alone. */
public final class LanguageTest {
    private static final Path SOURCE = Path.of("src/main/java/SpreadGroups.java");
    private static final String[] RULED_OUT = {
        "\\b(throw|throws|try|catch|finally|synchronized|assert|import|package|volatile|transient|native|var)\\b",
        "->", "::", "\\b\\w+Exact\\b", "\\bdouble\\b|\\bfloat\\b", "\\bObject\\b", "\\b(System\\.(?!arraycopy)|Thread|Random)",
        "\\bstatic \\{", "@",
    };
    private static final Pattern METHOD = Pattern.compile("^( +)((?:public |private |static |final )*)(\\w+(?:\\[\\])* )?(\\w+)\\(([^()]*)\\) \\{$");
    private static final int LONGEST = 60;
    private static final int MOST_PARAMETERS = 7;

    private static final Due due = new Due("LanguageTest");

    public static void main(String[] args) throws IOException {
        List<String> lines = Files.readAllLines(SOURCE);
        StringBuilder faceNames = new StringBuilder("|");
        for (java.lang.reflect.Method method : SpreadGroups.class.getMethods()) {
            faceNames.append(method.getName()).append('|');
        }
        int methods = 0;
        for (int n = 0; n < lines.size(); n++) {
            String code = codeOf(lines.get(n));
            ruledOut(n + 1, code);
            objectsMade(n + 1, code);
            Matcher method = METHOD.matcher(code);
            if (method.find() && !method.group(4).matches("if|for|while|switch")) {
                methods++;
                method(n, lines, method, faceNames.toString());
            }
        }
        due.is("methods are found", methods > 100 ? 1 : 0, 1);
        due.end();
    }

    private static String codeOf(String line) {
        String plain = line.strip();
        if (plain.startsWith("/*") || plain.startsWith("*") || plain.startsWith("//")) {
            return "";
        }
        return line.replaceAll("\"[^\"]*\"", "\"\"").replaceAll("//.*", "");
    }

    private static void ruledOut(int number, String code) {
        for (String rule : RULED_OUT) {
            due.is("line " + number + " keeps off " + rule, Pattern.compile(rule).matcher(code).find() ? 1 : 0, 0);
        }
        for (int p = 0; p < code.length(); p++) {
            due.is("line " + number + " is plain", code.charAt(p) > 126 ? 1 : 0, 0);
        }
    }

    /** All calls of a run share one room, so objects are made with their owner only. */
    private static void objectsMade(int number, String code) {
        boolean withItsOwner = code.matches("^ +private final .* = new .*") || code.matches("^ +mapBefore = new .*");
        due.is("line " + number + " makes an object", code.contains(" new ") && !withItsOwner ? 1 : 0, 0);
    }

    private static void method(int start, List<String> lines, Matcher method, String faceNames) {
        String name = method.group(4);
        int end = start;
        while (end < lines.size() && !lines.get(end).equals(method.group(1) + "}")) {
            end++;
        }
        due.is(name + " is short", end - start + 1 > LONGEST ? 1 : 0, 0);
        due.is(name + " has few parameters", method.group(5).split(",").length > MOST_PARAMETERS ? 1 : 0, 0);
        boolean ofTheFace = method.group(2).contains("public");
        due.is(name + " has a name of its own", !ofTheFace && faceNames.contains("|" + name + "|") ? 1 : 0, 0);
    }
}
