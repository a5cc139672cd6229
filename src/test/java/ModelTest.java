import java.lang.reflect.InvocationTargetException;
import java.lang.reflect.Method;
import java.lang.reflect.Modifier;
import java.util.ArrayList;
import java.util.Arrays;
import java.util.Comparator;
import java.util.List;
import java.util.Map;
import java.util.Random;
import java.util.TreeMap;

/** Long runs of calls, drawn with fixed seeds, on an object and on the model: each answer is the same. */
public final class ModelTest {
    private static final int RUNS = 200;
    private static final int CALLS = 512;
    private static final String[] CHANGES = {
        "edit", "edit", "edit", "edit", "edit", "edit", "commit", "commit", "commit", "commit", "commit",
        "newBranch", "dropBranch", "switchTo", "switchTo", "switchTo", "merge", "merge", "merge", "pick", "pick",
        "revert", "replay", "replay", "resolve", "resolve", "resolve", "abort", "reset", "putAside", "takeBack",
        "goBack", "undo", "keep", "runOrders",
    };
    private static final String[] NEED_REST = {"switchTo", "switchTo", "merge", "merge", "replay", "pick", "revert"};
    private static final Map<String, Method> CALL = new TreeMap<>();
    private static final Map<String, Method> MODELLED = new TreeMap<>();
    private static final List<String> NAMES = new ArrayList<>();
    private static final Map<String, Integer> SEEN = new TreeMap<>();

    private final Random random;
    private final BranchedSource tested = new BranchedSource();
    private final Model model = new Model();
    private final int run;
    private final boolean isGrowing;
    private final int places;
    private final int values;
    private int calls = 0;

    private ModelTest(int run) {
        this.run = run;
        random = new Random(run);
        isGrowing = run % 3 == 0;
        places = 1 + random.nextInt(run % 2 == 0 ? 4 : 24);
        values = 2 + random.nextInt(4);
    }

    public static void main(String[] args) throws ReflectiveOperationException {
        Check.part("model");
        Method[] methods = BranchedSource.class.getDeclaredMethods();
        Arrays.sort(methods, Comparator.comparing(Method::getName));
        for (Method method : methods) {
            if (Modifier.isPublic(method.getModifiers())) {
                CALL.put(method.getName(), method);
                MODELLED.put(method.getName(), Model.class.getDeclaredMethod(method.getName(), method.getParameterTypes()));
                NAMES.add(method.getName());
            }
        }
        Check.due("calls of the face", NAMES.size(), 58);
        for (int run = 0; run < RUNS && Check.wrong() == 0; run++) {
            new ModelTest(run).go();
        }
        dueSeen();
        Check.end();
    }

    /** A test that never comes to the edges would show nothing of them. */
    private static void dueSeen() {
        for (String edge : new String[] {"sixty commits", "two best ones", "three branches", "long region", "three aside",
            "replay of two", "takeBack", "merge with conflicts", "merge at 60", "replay refused", "full pad", "lost"}) {
            if (Check.wrong() == 0 && SEEN.getOrDefault(edge, 0) < 10) {
                Check.tell("too seldom seen: " + edge + " " + SEEN.getOrDefault(edge, 0) + " times");
            }
        }
        System.out.println(SEEN);
    }

    private static void see(String edge, boolean isThere) {
        if (isThere) {
            SEEN.merge(edge, 1, Integer::sum);
        }
    }

    private void go() throws ReflectiveOperationException {
        while (calls < CALLS && Check.wrong() == 0) {
            int kind = random.nextInt(40);
            if (kind == 0) {
                typeSomething();
            } else if (kind < 8) {
                editRow();
                change("commit");
            } else if (kind == 8) {
                editRow();
                change(random.nextInt(3) == 0 ? "takeBack" : "putAside");
            } else if (kind < 16) {
                settle();
                change(NEED_REST[random.nextInt(NEED_REST.length)]);
            } else if (kind < 26) {
                change(CHANGES[random.nextInt(CHANGES.length)]);
            } else {
                call(NAMES.get(random.nextInt(NAMES.size())));
            }
        }
        compareAll();
        seeEdges();
    }

    /** Edits lines that lie one behind the other. */
    private void editRow() throws ReflectiveOperationException {
        int start = random.nextInt(places);
        int count = random.nextInt(4) == 0 ? 6 : 1;
        int value = random.nextInt(values);
        for (int place = start; place < start + count && place < places; place++) {
            call("edit", place / 6, place % 6, value);
        }
    }

    /** What is open or changed stands in the way of most changes; without this the branches would hardly grow. */
    private void settle() throws ReflectiveOperationException {
        for (int place = 0; place < 24; place++) {
            if (model.isConflict(place / 6, place % 6)) {
                call("resolve", place / 6, place % 6, random.nextInt(3) > 0);
            }
        }
        if (model.isMerging() || model.changed() > 0) {
            change("commit");
        }
        if (model.isPicking()) {
            change("abort");
        } else if (model.changed() > 0 || model.isMerging()) {
            call("reset", model.head());
        }
        if (model.branches() < 3) {
            change("newBranch");
        }
    }

    private void change(String name) throws ReflectiveOperationException {
        see("long region", model.longestRegion() >= 3);
        see("three aside", model.aside() == 3);
        boolean isBackwards = name.equals("undo") || name.equals("goBack") || name.equals("reset");
        if (isGrowing && isBackwards && random.nextInt(4) > 0) {
            return;
        }
        int before = model.commits();
        Object answer = call(name);
        see("replay of two", name.equals("replay") && answer instanceof Integer made && made >= 2);
        see("replay refused", name.equals("replay") && answer == IllegalStateException.class);
        see("takeBack", name.equals("takeBack") && answer instanceof Integer others && others > 0);
        see("merge with conflicts", name.equals("merge") && answer instanceof Integer conflicts && conflicts > 0);
        see("merge at 60", name.equals("merge") && before == 60);
    }

    private void seeEdges() {
        int last = model.commits() - 1;
        see("sixty commits", last == 59);
        see("three branches", model.branches() >= 3);
        see("lost", model.lost() > 0);
        for (int commit = 0; commit <= last; commit++) {
            for (int other = 0; other < commit; other++) {
                see("two best ones", model.bestCommon(commit, other) > 1);
            }
        }
    }

    private void typeSomething() throws ReflectiveOperationException {
        call("clearPad");
        StringBuilder text = new StringBuilder();
        int orders = random.nextInt(isGrowing ? 24 : 12);
        for (int order = 0; order < orders; order++) {
            text.append(order());
        }
        if (random.nextInt(4) == 0 && text.length() > 0) {
            text.setCharAt(random.nextInt(text.length()), "0123456789.=;cbasmpr x".charAt(random.nextInt(22)));
        }
        for (int i = 0; i < text.length() && i < 61 && calls < CALLS; i++) {
            Object length = call("type", (int) text.charAt(i));
            see("full pad", length.equals(60));
        }
        call("fault");
        call("runOrders");
    }

    private String order() {
        int commits = model.commits();
        return switch (random.nextInt(9)) {
            case 0, 1 -> "0." + random.nextInt(Math.min(places, 6)) + "=" + random.nextInt(values) + ";";
            case 2 -> "c;";
            case 3 -> random.nextInt(4) == 0 ? "b;" : "c;";
            case 4 -> random.nextInt(3) == 0 ? "a;" : "c;";
            case 5 -> "s" + random.nextInt(3) + ";";
            case 6 -> "m" + random.nextInt(3) + ";";
            case 7 -> "p" + random.nextInt(Math.min(60, commits + 1)) + ";";
            default -> "r" + random.nextInt(Math.min(60, commits + 1)) + ";";
        };
    }

    private Object call(String name) throws ReflectiveOperationException {
        Class<?>[] types = CALL.get(name).getParameterTypes();
        Object[] arguments = new Object[types.length];
        int commits = model.commits();
        for (int i = 0; i < types.length; i++) {
            arguments[i] = types[i] == boolean.class ? (Object) random.nextBoolean() : drawn(name, i, types.length, commits);
        }
        boolean isOfLine = name.equals("edit") || name.equals("resolve") || name.equals("theirs");
        if (isOfLine && random.nextInt(8) > 0) {
            int place = random.nextInt(places);
            arguments[0] = place / 6;
            arguments[1] = place % 6;
        }
        return call(name, arguments);
    }

    private Object drawn(String name, int index, int count, int commits) {
        if (random.nextInt(60) == 0) {
            int[] odd = {-1, 6, 4, 100, 60, commits, Integer.MIN_VALUE, Integer.MAX_VALUE};
            return odd[random.nextInt(odd.length)];
        }
        switch (name) {
            case "type":
                return 32 + random.nextInt(95);
            case "edit":
                return index == 2 ? random.nextInt(values) : random.nextInt(index == 0 ? 4 : 6);
            case "dropBranch", "switchTo", "merge", "replay", "isBranch", "standsAt", "wouldConflict", "wouldBecome":
                return drawnBranch();
            case "lineAt", "broughtBy", "firstWith":
                return index == 0 ? random.nextInt(commits)
                    : index == 3 ? random.nextInt(values) : random.nextInt(places) % (index == 1 ? 4 : 6);
            case "resolve", "isConflict", "theirs", "lineOf", "isChanged":
                return random.nextInt(index == 0 ? 4 : 6);
            default:
                return random.nextInt(commits);
        }
    }

    private int drawnBranch() {
        int branch = random.nextInt(6);
        for (int tries = 0; tries < 6 && random.nextInt(12) > 0; tries++) {
            if (model.isBranch(branch) && branch != model.current()) {
                break;
            }
            branch = (branch + 1) % 6;
        }
        return branch;
    }

    private Object call(String name, Object... arguments) throws ReflectiveOperationException {
        calls++;
        Object got = answer(CALL.get(name), tested, arguments);
        Object want = answer(MODELLED.get(name), model, arguments);
        if (!got.equals(want)) {
            Check.tell("run " + run + ", call " + calls + ": " + name + Arrays.toString(arguments)
                + " answered " + got + ", due is " + want);
        }
        return got;
    }

    private static Object answer(Method method, Object object, Object[] arguments) throws ReflectiveOperationException {
        try {
            return method.invoke(object, arguments);
        } catch (InvocationTargetException e) {
            return e.getCause().getClass();
        }
    }

    /** Every question that there is, with every argument in range: behind the 512 calls only to look for what is hidden. */
    private void compareAll() throws ReflectiveOperationException {
        for (String name : NAMES) {
            Method method = CALL.get(name);
            if (Arrays.asList(CHANGES).contains(name) || name.equals("type") || name.equals("clearPad")) {
                continue;
            }
            int count = method.getParameterCount();
            int commits = model.commits();
            for (int one = 0; one < (count > 0 ? commits : 1); one++) {
                for (int two = 0; two < (count > 1 ? commits : 1); two++) {
                    if (count == 0) {
                        call(name, new Object[0]);
                    } else if (count == 1) {
                        call(name, one);
                    } else if (count == 2) {
                        call(name, one, two);
                    } else if (count == 3) {
                        call(name, one, two % 4, two % 6);
                    } else {
                        call(name, one, two % 4, two % 6, one % values);
                    }
                }
            }
        }
        while (Check.wrong() == 0 && call("undo") instanceof Integer) {
            for (int place = 0; place < 24; place++) {
                call("lineOf", place / 6, place % 6);
                call("isConflict", place / 6, place % 6);
            }
            call("commits");
            call("head");
            call("aside");
            call("allConflicts");
            call("lost");
        }
    }
}
