import java.io.IOException;
import java.lang.reflect.InvocationTargetException;
import java.lang.reflect.Method;
import java.nio.file.Files;
import java.nio.file.Path;
import java.util.Arrays;
import java.util.List;
import java.util.Map;
import java.util.TreeMap;
import java.util.regex.Matcher;
import java.util.regex.Pattern;

/** The examples of README.md answer as it says, and its tables tell each call of the face. */
public final class ReadmeTest {
    private static final Path PAGE = Path.of("README.md");
    private static final Pattern CALL = Pattern.compile("source\\.(\\w+)\\((.*)\\); +// (throws \\w+|-?\\d+)\\b.*");
    private static final Pattern TYPING = Pattern.compile("for \\(char sign : \"(.*)\"\\.toCharArray\\(\\)\\) source\\.type\\(sign\\);");
    private static final Pattern ROW = Pattern.compile("\\| (\\*\\*)?`(\\w+)\\((.*)\\)`(\\*\\*)? \\| (.+) \\| (.+) \\| (.+) \\|");
    private static final List<String> CHANGES = List.of(
        "edit", "commit", "newBranch", "dropBranch", "switchTo", "merge", "pick", "revert", "resolve", "abort", "reset",
        "replay", "putAside", "takeBack", "runOrders", "goBack");

    public static void main(String[] args) throws IOException {
        List<String> lines = Files.readAllLines(PAGE);
        Map<String, Method> face = new TreeMap<>();
        for (Method method : BranchedSource.class.getDeclaredMethods()) {
            if ((method.getModifiers() & 1) != 0) {
                face.put(method.getName(), method);
            }
        }
        Check.part("README, examples");
        carryOutExamples(lines, face);
        Check.part("README, tables");
        lookAtTables(lines, face);
        Check.end();
    }

    private static void carryOutExamples(List<String> lines, Map<String, Method> face) {
        BranchedSource source = null;
        boolean isExample = false;
        int calls = 0;
        for (String line : lines) {
            if (line.startsWith("```")) {
                isExample = line.equals("```java");
            } else if (isExample && line.equals("BranchedSource source = new BranchedSource();")) {
                source = new BranchedSource();
            } else if (isExample) {
                carryOut(source, line, face);
                calls++;
            }
        }
        Check.due("at least 40 calls are shown", calls >= 40, true);
    }

    private static void carryOut(BranchedSource source, String line, Map<String, Method> face) {
        Matcher typing = TYPING.matcher(line);
        Matcher call = CALL.matcher(line);
        if (typing.matches()) {
            typing.group(1).chars().forEach(source::type);
        } else if (call.matches() && face.containsKey(call.group(1))) {
            Check.dueText(line, answer(source, face.get(call.group(1)), call.group(2)), call.group(3));
        } else {
            Check.tell("can't be read: " + line);
        }
    }

    private static String answer(BranchedSource source, Method method, String arguments) {
        String[] texts = arguments.isEmpty() ? new String[0] : arguments.split(", ");
        Object[] values = new Object[texts.length];
        for (int i = 0; i < texts.length; i++) {
            values[i] = value(texts[i]);
        }
        try {
            return String.valueOf(method.invoke(source, values));
        } catch (InvocationTargetException e) {
            return "throws " + e.getCause().getClass().getSimpleName();
        } catch (IllegalAccessException e) {
            return e.toString();
        }
    }

    private static Object value(String text) {
        if (text.equals("true") || text.equals("false")) {
            return text.equals("true");
        }
        return text.startsWith("'") ? (int) text.charAt(1) : Integer.parseInt(text);
    }

    private static void lookAtTables(List<String> lines, Map<String, Method> face) {
        Map<String, Integer> told = new TreeMap<>();
        for (String line : lines) {
            Matcher row = ROW.matcher(line);
            if (row.matches()) {
                String name = row.group(2);
                Method method = face.get(name);
                Check.due("a call of the face is " + name, method != null, true);
                if (method != null) {
                    told.merge(name, 1, Integer::sum);
                    lookAtRow(row, method);
                }
            }
        }
        for (String name : face.keySet()) {
            Check.due("rows of " + name, told.getOrDefault(name, 0), 1);
        }
    }

    private static void lookAtRow(Matcher row, Method method) {
        String name = method.getName();
        int parameters = row.group(3).isEmpty() ? 0 : row.group(3).split(", ").length;
        Check.due("parameters of " + name, parameters, method.getParameterCount());
        Check.due(name + " is bold", row.group(1) != null && row.group(4) != null, CHANGES.contains(name));
        List<Class<?>> faults = Arrays.asList(method.getExceptionTypes());
        Check.due(name + " throws IllegalArgumentException", !row.group(6).equals("never"),
            faults.contains(IllegalArgumentException.class));
        Check.due(name + " throws IllegalStateException", !row.group(7).equals("never"),
            faults.contains(IllegalStateException.class));
    }
}
