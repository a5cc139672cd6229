import java.util.ArrayDeque;
import java.util.ArrayList;
import java.util.Arrays;
import java.util.Deque;
import java.util.List;
import java.util.Map;
import java.util.Set;
import java.util.TreeMap;
import java.util.TreeSet;
import java.util.function.IntSupplier;
import java.util.regex.Matcher;
import java.util.regex.Pattern;

/** The document once more, by the Java library and without care for room: a change copies all, and a fault puts it back. */
final class Model {
    private static final String ORDER =
        "(?:[0-3]\\.[0-5]=(?:0|[1-9][0-9]?)|[cba]|[sm][0-5]|[pr](?:0|[1-5][0-9]?|[6-9]));";
    private static final Pattern ORDERS = Pattern.compile("(?:" + ORDER + ")*");

    private record Commit(int first, int second, List<Integer> tree) {
    }

    private record Aside(List<Integer> base, List<Integer> tree) {
    }

    private record Combined(List<Integer> tree, Map<Integer, Integer> theirs, int becoming) {
    }

    private record State(List<Commit> commits, Map<Integer, Integer> branches, int current, List<Integer> work,
                         Map<Integer, Integer> theirs, char open, int merged, List<Aside> aside, int allConflicts) {
    }

    private String pad = "";
    private State snapshot = null;
    private final Deque<State> records = new ArrayDeque<>();

    private List<Commit> commits = new ArrayList<>(List.of(new Commit(-1, -1, blank())));
    private Map<Integer, Integer> branches = new TreeMap<>(Map.of(0, 0));
    private int current = 0;
    private List<Integer> work = blank();
    private Map<Integer, Integer> theirs = new TreeMap<>();
    private char open = ' ';
    private int merged = -1;
    private List<Aside> aside = new ArrayList<>();
    private int allConflicts = 0;

    private static List<Integer> blank() {
        return new ArrayList<>(java.util.Collections.nCopies(24, 0));
    }

    private State look() {
        return new State(new ArrayList<>(commits), new TreeMap<>(branches), current, new ArrayList<>(work),
            new TreeMap<>(theirs), open, merged, new ArrayList<>(aside), allConflicts);
    }

    private void put(State s) {
        commits = new ArrayList<>(s.commits);
        memo.clear();
        branches = new TreeMap<>(s.branches);
        current = s.current;
        work = new ArrayList<>(s.work);
        theirs = new TreeMap<>(s.theirs);
        open = s.open;
        merged = s.merged;
        aside = new ArrayList<>(s.aside);
        allConflicts = s.allConflicts;
    }

    private int change(IntSupplier doing) {
        State before = look();
        int answer = attempt(doing);
        records.addLast(before);
        if (records.size() > 4) {
            records.removeFirst();
        }
        return answer;
    }

    private int attempt(IntSupplier doing) {
        State before = look();
        try {
            return doing.getAsInt();
        } catch (RuntimeException e) {
            put(before);
            throw e;
        }
    }

    private static void argument(boolean isRight) {
        if (!isRight) {
            throw new IllegalArgumentException();
        }
    }

    private static void state(boolean isRight) {
        if (!isRight) {
            throw new IllegalStateException();
        }
    }

    private static int at(int file, int line) {
        argument(file >= 0 && file <= 3 && line >= 0 && line <= 5);
        return file * 6 + line;
    }

    private Commit known(int commit) {
        argument(commit >= 0 && commit < commits.size());
        return commits.get(commit);
    }

    private static void number(int branch) {
        argument(branch >= 0 && branch <= 5);
    }

    private void standing(int branch) {
        number(branch);
        state(branches.containsKey(branch));
    }

    private List<Integer> headTree() {
        return commits.get(head()).tree;
    }

    private void clean() {
        work = new ArrayList<>(headTree());
        theirs.clear();
        open = ' ';
    }

    private Set<Integer> reached(int commit) {
        Set<Integer> all = new TreeSet<>();
        if (commit >= 0) {
            all.add(commit);
            all.addAll(reachedFrom(commits.get(commit).first));
            all.addAll(reachedFrom(commits.get(commit).second));
        }
        return all;
    }

    private final Map<Integer, Set<Integer>> memo = new TreeMap<>();

    private Set<Integer> reachedFrom(int commit) {
        Set<Integer> got = memo.get(commit);
        if (got == null) {
            got = reached(commit);
            memo.put(commit, got);
        }
        return got;
    }

    private Set<Integer> common(int commit, int other) {
        Set<Integer> both = new TreeSet<>(reachedFrom(commit));
        both.retainAll(reachedFrom(other));
        return both;
    }

    private static Combined combine(List<Integer> old, List<Integer> fresh, List<Integer> third) {
        List<Integer> tree = new ArrayList<>(third);
        Map<Integer, Integer> theirs = new TreeMap<>();
        int becoming = 0;
        for (int place = 0; place < 24; place++) {
            int o = old.get(place);
            int n = fresh.get(place);
            int t = third.get(place);
            if (n != o && n != t) {
                if (t == o) {
                    tree.set(place, n);
                    becoming++;
                } else {
                    theirs.put(place, n);
                }
            }
        }
        return new Combined(tree, theirs, becoming);
    }

    int type(int character) {
        argument(character >= 32 && character <= 126);
        state(pad.length() < 60);
        pad += (char) character;
        return pad.length();
    }

    int clearPad() {
        int length = pad.length();
        pad = "";
        return length;
    }

    int fault() {
        for (int length = 1; length <= pad.length(); length++) {
            Matcher matcher = ORDERS.matcher(pad.substring(0, length));
            if (!matcher.matches() && !matcher.hitEnd()) {
                return length - 1;
            }
        }
        return ORDERS.matcher(pad).matches() ? -1 : pad.length();
    }

    int runOrders() {
        state(fault() == -1);
        return change(() -> {
            int done = 0;
            for (String order : pad.split(";")) {
                if (order.isEmpty()) {
                    continue;
                }
                try {
                    attempt(() -> carryOut(order));
                } catch (RuntimeException e) {
                    break;
                }
                done++;
            }
            return done;
        });
    }

    private int carryOut(String order) {
        char kind = order.charAt(0);
        if (order.contains("=")) {
            return doEdit(kind - '0', order.charAt(2) - '0', Integer.parseInt(order.substring(4)));
        }
        int number = order.length() > 1 ? Integer.parseInt(order.substring(1)) : -1;
        return switch (kind) {
            case 'c' -> doCommit();
            case 'b' -> doNewBranch();
            case 'a' -> doAbort();
            case 's' -> doSwitchTo(number);
            case 'm' -> doMerge(number);
            case 'p' -> doPick(number, false);
            default -> doPick(number, true);
        };
    }

    int edit(int file, int line, int value) {
        return change(() -> doEdit(file, line, value));
    }

    private int doEdit(int file, int line, int value) {
        int place = at(file, line);
        argument(value >= 0 && value <= 99);
        work.set(place, value);
        theirs.remove(place);
        return changed();
    }

    int commit() {
        return change(this::doCommit);
    }

    private int doCommit() {
        state(theirs.isEmpty());
        state(changed() > 0 || open == 'm');
        return addCommit(head(), open == 'm' ? merged : -1);
    }

    private int addCommit(int first, int second) {
        state(commits.size() < 60);
        commits.add(new Commit(first, second, new ArrayList<>(work)));
        branches.put(current, commits.size() - 1);
        open = ' ';
        return commits.size() - 1;
    }

    int reset(int commit) {
        return change(() -> {
            known(commit);
            int before = head();
            branches.put(current, commit);
            clean();
            return before;
        });
    }

    int putAside() {
        return change(() -> {
            state(changed() > 0);
            state(open == ' ');
            state(aside.size() < 3);
            aside.add(new Aside(headTree(), new ArrayList<>(work)));
            clean();
            return aside.size();
        });
    }

    int takeBack() {
        return change(() -> {
            state(!aside.isEmpty());
            state(open == ' ');
            Aside latest = aside.remove(aside.size() - 1);
            Combined combined = combine(latest.base, latest.tree, work);
            state(combined.theirs.isEmpty());
            work = combined.tree;
            return combined.becoming;
        });
    }

    int newBranch() {
        return change(this::doNewBranch);
    }

    private int doNewBranch() {
        for (int branch = 0; branch < 6; branch++) {
            if (branches.putIfAbsent(branch, head()) == null) {
                return branch;
            }
        }
        throw new IllegalStateException();
    }

    int dropBranch(int branch) {
        return change(() -> {
            standing(branch);
            state(branch != current);
            return branches.remove(branch);
        });
    }

    int switchTo(int branch) {
        return change(() -> doSwitchTo(branch));
    }

    private int doSwitchTo(int branch) {
        standing(branch);
        state(branch != current && changed() == 0 && open == ' ');
        current = branch;
        clean();
        return head();
    }

    int merge(int branch) {
        return change(() -> doMerge(branch));
    }

    private int doMerge(int branch) {
        standing(branch);
        state(changed() == 0 && open == ' ');
        int other = branches.get(branch);
        state(!reaches(head(), other));
        if (reaches(other, head())) {
            branches.put(current, other);
            clean();
            return 0;
        }
        state(commits.size() < 60);
        Combined combined = combine(commits.get(base(head(), other)).tree, commits.get(other).tree, work);
        merged = other;
        return settle(combined, 'm');
    }

    private int settle(Combined combined, char kind) {
        work = combined.tree;
        theirs = combined.theirs;
        allConflicts += theirs.size();
        open = kind;
        if (theirs.isEmpty()) {
            addCommit(head(), kind == 'm' ? merged : -1);
        }
        return theirs.size();
    }

    int pick(int commit) {
        return change(() -> doPick(commit, false));
    }

    int revert(int commit) {
        return change(() -> doPick(commit, true));
    }

    private int doPick(int commit, boolean isBack) {
        Commit picked = known(commit);
        state(commit != 0 && changed() == 0 && open == ' ');
        List<Integer> parent = commits.get(picked.first).tree;
        Combined combined = isBack ? combine(picked.tree, parent, work) : combine(parent, picked.tree, work);
        state(combined.becoming + combined.theirs.size() > 0);
        state(commits.size() < 60);
        return settle(combined, 'p');
    }

    int replay(int branch) {
        return change(() -> {
            standing(branch);
            state(changed() == 0 && open == ' ');
            int other = branches.get(branch);
            state(!reaches(head(), other));
            Set<Integer> chosen = new TreeSet<>();
            for (int at = head(); at >= 0 && !reaches(other, at); at = commits.get(at).first) {
                chosen.add(at);
            }
            int before = commits.size();
            branches.put(current, other);
            clean();
            for (int at : chosen) {
                Commit picked = commits.get(at);
                Combined combined = combine(commits.get(picked.first).tree, picked.tree, work);
                state(combined.theirs.isEmpty());
                if (combined.becoming > 0) {
                    settle(combined, 'p');
                }
            }
            return commits.size() - before;
        });
    }

    int resolve(int file, int line, boolean isTheirs) {
        return change(() -> {
            int place = at(file, line);
            state(theirs.containsKey(place));
            int other = theirs.remove(place);
            if (isTheirs) {
                work.set(place, other);
            }
            return theirs.size();
        });
    }

    int abort() {
        return change(this::doAbort);
    }

    private int doAbort() {
        state(open != ' ');
        int count = theirs.size();
        clean();
        return count;
    }

    boolean isConflict(int file, int line) {
        return theirs.containsKey(at(file, line));
    }

    int theirs(int file, int line) {
        int place = at(file, line);
        state(theirs.containsKey(place));
        return theirs.get(place);
    }

    int conflicts() {
        return theirs.size();
    }

    /** The lengths of the regions, by the files written as texts. */
    private List<Integer> lengths() {
        StringBuilder text = new StringBuilder();
        for (int place = 0; place < 24; place++) {
            text.append(place % 6 == 0 ? " " : "").append(theirs.containsKey(place) ? 'x' : ' ');
        }
        List<Integer> lengths = new ArrayList<>();
        Arrays.stream(text.toString().split(" +")).filter(part -> !part.isEmpty()).forEach(part -> lengths.add(part.length()));
        return lengths;
    }

    int regions() {
        return lengths().size();
    }

    int longestRegion() {
        return lengths().stream().mapToInt(Integer::intValue).max().orElse(0);
    }

    boolean isMerging() {
        return open == 'm';
    }

    boolean isPicking() {
        return open == 'p';
    }

    int lineOf(int file, int line) {
        return work.get(at(file, line));
    }

    boolean isChanged(int file, int line) {
        int place = at(file, line);
        return !work.get(place).equals(headTree().get(place));
    }

    private static int unlike(List<Integer> one, List<Integer> other) {
        int count = 0;
        for (int place = 0; place < 24; place++) {
            count += one.get(place).equals(other.get(place)) ? 0 : 1;
        }
        return count;
    }

    int changed() {
        return unlike(work, headTree());
    }

    int lineAt(int commit, int file, int line) {
        return known(commit).tree.get(at(file, line));
    }

    int differences(int commit, int other) {
        return unlike(known(commit).tree, known(other).tree);
    }

    int broughtBy(int commit, int file, int line) {
        int value = lineAt(commit, file, line);
        Commit c = known(commit);
        if (c.first >= 0 && lineAt(c.first, file, line) == value) {
            return broughtBy(c.first, file, line);
        }
        if (c.second >= 0 && lineAt(c.second, file, line) == value) {
            return broughtBy(c.second, file, line);
        }
        return commit;
    }

    int firstWith(int commit, int file, int line, int value) {
        known(commit);
        int place = at(file, line);
        return reachedFrom(commit).stream().filter(c -> commits.get(c).tree.get(place) == value).findFirst().orElse(-1);
    }

    double fullness() {
        return unlike(work, blank()) / 24.0;
    }

    int commits() {
        return commits.size();
    }

    int firstParent(int commit) {
        return known(commit).first;
    }

    int secondParent(int commit) {
        return known(commit).second;
    }

    int branches() {
        return branches.size();
    }

    boolean isBranch(int branch) {
        number(branch);
        return branches.containsKey(branch);
    }

    int standsAt(int branch) {
        standing(branch);
        return branches.get(branch);
    }

    int current() {
        return current;
    }

    int head() {
        return branches.get(current);
    }

    int aside() {
        return aside.size();
    }

    int lost() {
        Set<Integer> all = new TreeSet<>();
        branches.values().forEach(commit -> all.addAll(reachedFrom(commit)));
        return commits.size() - all.size();
    }

    boolean reaches(int commit, int other) {
        known(commit);
        known(other);
        return reachedFrom(commit).contains(other);
    }

    int history(int commit) {
        known(commit);
        return reachedFrom(commit).size();
    }

    int historyAt(int commit, int place) {
        known(commit);
        argument(place >= 0);
        List<Integer> all = new ArrayList<>(reachedFrom(commit));
        return place < all.size() ? all.get(all.size() - 1 - place) : -1;
    }

    int distance(int commit, int other) {
        known(commit);
        known(other);
        Set<Integer> level = new TreeSet<>(Set.of(commit));
        for (int steps = 0; !level.isEmpty(); steps++) {
            if (level.contains(other)) {
                return steps;
            }
            Set<Integer> next = new TreeSet<>();
            for (int at : level) {
                next.add(commits.get(at).first);
                next.add(commits.get(at).second);
            }
            next.remove(-1);
            level = next;
        }
        return -1;
    }

    int depth(int commit) {
        known(commit);
        Set<Integer> level = new TreeSet<>(Set.of(commit));
        int steps = -1;
        while (!level.isEmpty()) {
            Set<Integer> next = new TreeSet<>();
            for (int at : level) {
                next.add(commits.get(at).first);
                next.add(commits.get(at).second);
            }
            next.remove(-1);
            level = next;
            steps++;
        }
        return steps;
    }

    int base(int commit, int other) {
        known(commit);
        known(other);
        return ((TreeSet<Integer>) common(commit, other)).last();
    }

    int baseByMarks(int commit, int other) {
        return base(commit, other);
    }

    int bestCommon(int commit, int other) {
        known(commit);
        known(other);
        Set<Integer> both = common(commit, other);
        return (int) both.stream()
            .filter(c -> both.stream().noneMatch(d -> !d.equals(c) && reachedFrom(d).contains(c)))
            .count();
    }

    private Combined would(int branch) {
        standing(branch);
        int other = branches.get(branch);
        return combine(commits.get(base(head(), other)).tree, commits.get(other).tree, headTree());
    }

    int wouldConflict(int branch) {
        return would(branch).theirs.size();
    }

    int wouldBecome(int branch) {
        return would(branch).becoming;
    }

    int merges() {
        return (int) commits.stream().filter(c -> c.second >= 0).count();
    }

    int allConflicts() {
        return allConflicts;
    }

    int keep() {
        snapshot = look();
        return commits.size();
    }

    int goBack() {
        state(snapshot != null);
        return change(() -> {
            put(snapshot);
            return commits.size();
        });
    }

    int undo() {
        state(!records.isEmpty());
        put(records.removeLast());
        return records.size();
    }
}
