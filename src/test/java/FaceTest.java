import java.lang.reflect.Constructor;
import java.lang.reflect.Field;
import java.lang.reflect.Method;
import java.lang.reflect.Modifier;
import java.util.Set;
import java.util.TreeSet;

/** The class shows the document's face, and nothing else. */
public final class FaceTest {
    private static final String[] FACE = {
        "int type(int) !AS", "int clearPad()", "int fault()", "int runOrders() !S",
        "int edit(int,int,int) !A", "int commit() !S", "int reset(int) !A", "int putAside() !S", "int takeBack() !S",
        "int newBranch() !S", "int dropBranch(int) !AS", "int switchTo(int) !AS", "int merge(int) !AS",
        "int pick(int) !AS", "int revert(int) !AS", "int replay(int) !AS",
        "int resolve(int,int,boolean) !AS", "int abort() !S", "boolean isConflict(int,int) !A",
        "int theirs(int,int) !AS", "int conflicts()", "int regions()", "int longestRegion()",
        "boolean isMerging()", "boolean isPicking()",
        "int lineOf(int,int) !A", "boolean isChanged(int,int) !A", "int changed()", "int lineAt(int,int,int) !A",
        "int differences(int,int) !A", "int broughtBy(int,int,int) !A", "int firstWith(int,int,int,int) !A",
        "double fullness()",
        "int commits()", "int firstParent(int) !A", "int secondParent(int) !A", "int branches()",
        "boolean isBranch(int) !A", "int standsAt(int) !AS", "int current()", "int head()", "int aside()", "int lost()",
        "boolean reaches(int,int) !A", "int history(int) !A", "int historyAt(int,int) !A", "int distance(int,int) !A",
        "int depth(int) !A", "int base(int,int) !A", "int baseByMarks(int,int) !A", "int bestCommon(int,int) !A",
        "int wouldConflict(int) !AS", "int wouldBecome(int) !AS", "int merges()", "int allConflicts()",
        "int keep()", "int goBack() !S", "int undo() !S",
    };

    public static void main(String[] args) {
        Check.part("face");
        Set<String> want = new TreeSet<>(Set.of(FACE));
        Set<String> got = new TreeSet<>();
        Set<String> hidden = new TreeSet<>();
        for (Method method : BranchedSource.class.getDeclaredMethods()) {
            if (Modifier.isPublic(method.getModifiers())) {
                got.add(signature(method));
            } else if (!method.isSynthetic()) {
                hidden.add(method.getName());
                Check.due(method + " is private", Modifier.isPrivate(method.getModifiers()), true);
            }
        }
        Check.due("the calls " + got + " against " + want, got.equals(want), true);
        for (String signature : FACE) {
            String name = signature.substring(signature.indexOf(' ') + 1, signature.indexOf('('));
            Check.due("a hidden " + name, hidden.contains(name), false);
        }
        for (Field field : BranchedSource.class.getDeclaredFields()) {
            Check.due(field + " is private", Modifier.isPrivate(field.getModifiers()), true);
        }
        Constructor<?>[] constructors = BranchedSource.class.getDeclaredConstructors();
        Check.due("constructors", constructors.length, 1);
        Check.due("constructor is public", Modifier.isPublic(constructors[0].getModifiers()), true);
        Check.due("class is public", Modifier.isPublic(BranchedSource.class.getModifiers()), true);
        Check.due("class is final", Modifier.isFinal(BranchedSource.class.getModifiers()), true);
        Check.end();
    }

    private static String signature(Method method) {
        StringBuilder text = new StringBuilder();
        text.append(method.getReturnType().getName()).append(' ').append(method.getName()).append('(');
        String between = "";
        for (Class<?> type : method.getParameterTypes()) {
            text.append(between).append(type.getName());
            between = ",";
        }
        text.append(')');
        StringBuilder faults = new StringBuilder();
        for (Class<?> fault : method.getExceptionTypes()) {
            faults.append(fault == IllegalArgumentException.class ? 'A' : fault == IllegalStateException.class ? 'S' : '?');
        }
        return faults.length() == 0 ? text.toString() : text.append(" !").append(faults).toString();
    }
}
