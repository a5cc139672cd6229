import java.io.IOException;
import java.lang.reflect.Field;
import java.lang.reflect.Method;
import java.lang.reflect.Modifier;
import java.nio.file.Files;
import java.nio.file.Path;
import java.util.List;
import java.util.Set;
import java.util.TreeSet;
import java.util.regex.Matcher;
import java.util.regex.Pattern;

/** The rules of LANGUAGE.md that a look at the text can show; it is run where the project lies. */
public final class RulesTest {
    private static final Path SOURCE = Path.of("src/main/java/BranchedSource.java");
    private static final String[] BANNED = {
        "->", "::", "\\btry\\b", "\\bcatch\\b", "\\bfinally\\b", "\\bsynchronized\\b", "\\bassert\\b", "\\bpackage\\b",
        "\\bprotected\\b", "\\binstanceof\\b", "Exact\\(", "\"\\s*\\+", "\\+\\s*\"", "\\bvar\\b", "while \\(true\\)",
        "\\bequals\\(", "\\bhashCode\\(", "\\btoString\\(", "\\bvolatile\\b", "\\btransient\\b",
    };
    private static final Pattern METHOD =
        Pattern.compile("^( {4,8})(?! )((?:public |private |static )*)[A-Za-z\\[\\]]+(?: [A-Za-z0-9]+)?\\((.*)\\).*\\{$");

    public static void main(String[] args) throws IOException {
        Check.part("rules");
        List<String> lines = Files.readAllLines(SOURCE);
        String code = String.join("\n", lines).replaceAll("(?s)/\\*.*?\\*/", "").replaceAll("//[^\n]*", "");
        for (String banned : BANNED) {
            Matcher matcher = Pattern.compile(banned).matcher(code);
            Check.due("the text has " + banned, matcher.find(), false);
        }
        Check.due("imports", count(code, "\\bimport\\b"), 1);
        Check.due("imports of Arrays", count(code, "import java\\.util\\.Arrays;"), 1);
        Check.due("at most 12 classes", count(code, "\\bclass\\b") <= 12, true);
        Check.due("static fields that are not final", count(code, "\\bstatic (?!final\\b)[\\w\\[\\]]+ \\w+( =|;)"), 0);
        Check.due("signs beyond 126", code.chars().filter(sign -> sign > 126).count(), 0);
        lookAtLibrary(code);
        lookAtMakings(code);
        lookAtMethods(lines);
        lookAtClasses();
        Check.end();
    }

    /** Rule 4: of the library only what is listed; the text has no other name of it than these. */
    private static void lookAtLibrary(String code) {
        Set<String> allowed = Set.of("Math.max", "Math.min", "System.arraycopy", "Arrays.fill");
        Matcher matcher = Pattern.compile("\\b(?!Histories\\b|Pad\\b)([A-Z]\\w*[a-z]\\w*)\\.(\\w+)").matcher(code);
        while (matcher.find()) {
            Check.due("allowed is " + matcher.group(), allowed.contains(matcher.group()), true);
        }
    }

    /** Rules 6 and 12: what is thrown, and what is made: nothing in a loop but the rows of the records. */
    private static void lookAtMakings(String code) {
        String thrown = "throw new (IllegalArgumentException|IllegalStateException)\\(\"[^\"]+\"\\);";
        Check.due("throws by a written text", count(code, "\\bthrow\\b"), count(code, thrown));
        String others = code.replaceAll(thrown, "");
        Check.due("what is made in a field", count(others, "\\bnew\\b"),
            count(others, "private final [\\w\\[\\]]+ \\w+ = new [^;]*;") + 1);
        Check.due("the rows of the records", count(others, "ring\\[slot\\] = new State\\(\\);"), 1);
    }

    /** Rules 1, 2 and 11, by the classes themselves. */
    private static void lookAtClasses() {
        Set<String> face = new TreeSet<>();
        for (Method method : BranchedSource.class.getMethods()) {
            face.add(method.getName());
        }
        lookAtFields(BranchedSource.class);
        for (Class<?> inside : BranchedSource.class.getDeclaredClasses()) {
            Check.due(inside + " is static", Modifier.isStatic(inside.getModifiers()), true);
            Check.due(inside + " is public or protected",
                Modifier.isPublic(inside.getModifiers()) || Modifier.isProtected(inside.getModifiers()), false);
            Check.due("classes in " + inside, inside.getDeclaredClasses().length, 0);
            for (Method method : inside.getDeclaredMethods()) {
                Check.due("a name of the face is that of " + method, face.contains(method.getName()), false);
            }
            lookAtFields(inside);
        }
    }

    private static void lookAtFields(Class<?> one) {
        int fields = 0;
        for (Field field : one.getDeclaredFields()) {
            fields += Modifier.isStatic(field.getModifiers()) ? 0 : 1;
        }
        Check.due("at most 20 fields in " + one, fields <= 20, true);
    }

    private static int count(String text, String pattern) {
        return (int) Pattern.compile(pattern).matcher(text).results().count();
    }

    private static void lookAtMethods(List<String> lines) {
        int methods = 0;
        for (int start = 0; start < lines.size(); start++) {
            Matcher matcher = METHOD.matcher(lines.get(start));
            if (matcher.matches()) {
                methods++;
                String end = matcher.group(1) + "}";
                int length = 1;
                while (start + length < lines.size() && !lines.get(start + length - 1).equals(end)) {
                    length++;
                }
                Check.due("a short " + lines.get(start).trim(), length <= 60, true);
                Check.due("few parameters of " + lines.get(start).trim(), matcher.group(3).split(",").length <= 7, true);
            }
        }
        Check.due("more than 100 methods are found", methods > 100, true);
    }
}
