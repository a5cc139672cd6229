import java.io.IOException;
import java.nio.file.Files;
import java.nio.file.Path;
import java.util.List;
import java.util.regex.Matcher;
import java.util.regex.Pattern;

/** The rules of LANGUAGE.md that a look at the text can show; it is run where the project lies. */
public final class RulesTest {
    private static final Path SOURCE = Path.of("src/main/java/BranchedSource.java");
    private static final String[] BANNED = {
        "->", "::", "\\btry\\b", "\\bcatch\\b", "\\bfinally\\b", "\\bsynchronized\\b", "\\bassert\\b", "\\bpackage\\b",
        "\\bprotected\\b", "\\binstanceof\\b", "Exact\\(", "\"\\s*\\+", "\\+\\s*\"", "\\bvar\\b", "while \\(true\\)",
        "\\bequals\\(", "\\bhashCode\\(", "\\btoString\\(", "\\bvolatile\\b", "\\btransient\\b",
    };
    private static final Pattern METHOD =
        Pattern.compile("^( {4,8})(?! )((?:public |private |static )*)[A-Za-z\\[\\]]+(?: [A-Za-z0-9]+)?\\((.*)\\).*\\{$");

    public static void main(String[] args) throws IOException {
        Check.part("rules");
        List<String> lines = Files.readAllLines(SOURCE);
        String code = String.join("\n", lines).replaceAll("(?s)/\\*.*?\\*/", "").replaceAll("//[^\n]*", "");
        for (String banned : BANNED) {
            Matcher matcher = Pattern.compile(banned).matcher(code);
            Check.due("the text has " + banned, matcher.find(), false);
        }
        Check.due("imports", count(code, "\\bimport\\b"), 1);
        Check.due("imports of Arrays", count(code, "import java\\.util\\.Arrays;"), 1);
        Check.due("at most 12 classes", count(code, "\\bclass\\b") <= 12, true);
        Check.due("static fields that are not final", count(code, "\\bstatic (?!final\\b)[\\w\\[\\]]+ \\w+( =|;)"), 0);
        Check.due("signs beyond 126", code.chars().filter(sign -> sign > 126).count(), 0);
        lookAtMethods(lines);
        Check.end();
    }

    private static int count(String text, String pattern) {
        return (int) Pattern.compile(pattern).matcher(text).results().count();
    }

    private static void lookAtMethods(List<String> lines) {
        int methods = 0;
        for (int start = 0; start < lines.size(); start++) {
            Matcher matcher = METHOD.matcher(lines.get(start));
            if (matcher.matches()) {
                methods++;
                String end = matcher.group(1) + "}";
                int length = 1;
                while (start + length < lines.size() && !lines.get(start + length - 1).equals(end)) {
                    length++;
                }
                Check.due("a short " + lines.get(start).trim(), length <= 60, true);
                Check.due("few parameters of " + lines.get(start).trim(), matcher.group(3).split(",").length <= 7, true);
            }
        }
        Check.due("more than 100 methods are found", methods > 100, true);
    }
}
