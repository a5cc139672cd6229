import java.util.Arrays;

/** What the terms say of combining: a test for each sentence, by each call that combines. */
public final class TermsEdgesTest {
    public static void main(String[] args) {
        everyKindOfLine();
        theLastLineOfEachFile();
        becomesAndConflictsAreCounted();
        baseOfAMerge();
        Check.end();
    }

    /** A call that combines the change from one row of lines to another one with a third one. */
    private interface Combining {
        /** Makes the object, calls, and returns it; the third tree is that of the head. */
        BranchedSource of(int[] old, int[] fresh, int[] third);
    }

    private static void set(BranchedSource x, int[] lines) {
        for (int place = 0; place < 24; place++) {
            x.edit(place / 6, place % 6, lines[place]);
        }
    }

    /** Makes a commit of the lines, if they are not those of the head. */
    private static void commit(BranchedSource x, int[] lines) {
        set(x, lines);
        if (x.changed() > 0) {
            x.commit();
        }
    }

    private static BranchedSource merged(int[] old, int[] fresh, int[] third) {
        BranchedSource x = new BranchedSource();
        commit(x, old);
        x.newBranch();
        commit(x, fresh);
        x.switchTo(1);
        commit(x, third);
        Check.due("wouldConflict", x.wouldConflict(0), count(old, fresh, third, true));
        Check.due("wouldBecome", x.wouldBecome(0), count(old, fresh, third, false));
        Check.due("merge", x.merge(0), count(old, fresh, third, true));
        return x;
    }

    private static BranchedSource picked(int[] old, int[] fresh, int[] third) {
        BranchedSource x = new BranchedSource();
        commit(x, old);
        commit(x, fresh);
        int picked = x.head();
        commit(x, third);
        Check.due("pick", x.pick(picked), count(old, fresh, third, true));
        return x;
    }

    private static BranchedSource reverted(int[] old, int[] fresh, int[] third) {
        BranchedSource x = new BranchedSource();
        commit(x, fresh);
        commit(x, old);
        int reverted = x.head();
        commit(x, third);
        Check.due("revert", x.revert(reverted), count(old, fresh, third, true));
        return x;
    }

    private static int count(int[] old, int[] fresh, int[] third, boolean isConflict) {
        int count = 0;
        for (int place = 0; place < 24; place++) {
            boolean isNeeded = fresh[place] != old[place] && fresh[place] != third[place];
            if (isNeeded && (third[place] == old[place]) != isConflict) {
                count++;
            }
        }
        return count;
    }

    /** One line of each of the five kinds that three numbers can be, beginning at a place; the rest is 9, 9, 9. */
    private static int[][] kinds(int start, int[][] kinds) {
        int[][] rows = new int[3][24];
        for (int row = 0; row < 3; row++) {
            Arrays.fill(rows[row], 9);
            for (int kind = 0; kind < kinds.length; kind++) {
                rows[row][(start + kind) % 24] = kinds[kind][row];
            }
        }
        return rows;
    }

    private static final int[][] FIVE = {{1, 1, 1}, {1, 1, 2}, {1, 2, 2}, {1, 2, 1}, {1, 2, 3}};
    private static final int[] FIVE_BECOME = {1, 2, 2, 2, 3};

    private static void dueLines(String call, BranchedSource x, int start) {
        for (int kind = 0; kind < 5; kind++) {
            int place = (start + kind) % 24;
            Check.due(call + ": line of kind " + kind, x.lineOf(place / 6, place % 6), FIVE_BECOME[kind]);
            Check.due(call + ": conflict of kind " + kind, x.isConflict(place / 6, place % 6), kind == 4);
        }
        Check.due(call + ": conflicts", x.conflicts(), 1);
        Check.due(call + ": changed", x.changed(), 1);
        int last = (start + 4) % 24;
        Check.due(call + ": theirs", x.theirs(last / 6, last % 6), 2);
    }

    private static void everyKindOfLine() {
        Check.part("terms: the line of the third tree stays, becomes the new one, or is in conflict");
        Combining[] calls = {TermsEdgesTest::merged, TermsEdgesTest::picked, TermsEdgesTest::reverted};
        String[] names = {"merge", "pick", "revert"};
        for (int call = 0; call < calls.length; call++) {
            for (int start = 0; start < 24; start++) {
                int[][] rows = kinds(start, FIVE);
                dueLines(names[call], calls[call].of(rows[0], rows[1], rows[2]), start);
            }
        }
        for (int start = 0; start < 24; start++) {
            int[][] rows = kinds(start, new int[][] {{1, 1, 1}, {1, 1, 2}, {1, 2, 2}, {1, 2, 1}});
            BranchedSource x = new BranchedSource();
            commit(x, rows[0]);
            set(x, rows[1]);
            x.putAside();
            set(x, rows[2]);
            Check.due("takeBack", x.takeBack(), 1);
            for (int kind = 0; kind < 4; kind++) {
                int place = (start + kind) % 24;
                Check.due("takeBack: line of kind " + kind, x.lineOf(place / 6, place % 6), FIVE_BECOME[kind]);
            }
            BranchedSource y = new BranchedSource();
            commit(y, rows[0]);
            y.newBranch();
            commit(y, rows[1]);
            int top = y.head();
            y.switchTo(1);
            commit(y, rows[2]);
            y.switchTo(0);
            Check.due("replay", y.replay(1), 1);
            for (int kind = 0; kind < 4; kind++) {
                int place = (start + kind) % 24;
                Check.due("replay: line of kind " + kind, y.lineOf(place / 6, place % 6), FIVE_BECOME[kind]);
            }
            Check.due("the replayed commit stays", y.lineAt(top, start / 6, start % 6), 1);
        }
    }

    private static void theLastLineOfEachFile() {
        Check.part("terms: line by line, from the first line of the first file to the last one of the last file");
        for (int place = 0; place < 24; place++) {
            int[][] become = kinds(place, new int[][] {{0, 99, 0}});
            BranchedSource x = merged(become[0], become[1], become[2]);
            int whole = x.isMerging() ? -1 : x.lineOf(place / 6, place % 6);
            Check.due("the line becomes the new one", whole, 99);
            int[][] conflict = kinds(place, new int[][] {{50, 99, 0}});
            BranchedSource y = merged(conflict[0], conflict[1], conflict[2]);
            Check.due("the line is in conflict", y.isConflict(place / 6, place % 6), true);
            Check.due("theirs", y.theirs(place / 6, place % 6), 99);
            Check.due("it stays", y.lineOf(place / 6, place % 6), 0);
        }
    }

    private static void becomesAndConflictsAreCounted() {
        Check.part("terms: each line is looked at alone");
        for (int conflicts = 1; conflicts <= 24; conflicts++) {
            int[] old = new int[24];
            int[] fresh = new int[24];
            int[] third = new int[24];
            for (int place = 0; place < 24; place++) {
                fresh[place] = 10;
                third[place] = place < conflicts ? 20 : 0;
            }
            BranchedSource x = merged(old, fresh, third);
            Check.due("conflicts", x.conflicts(), conflicts);
            Check.due("changed", x.changed(), 24 - conflicts);
            Check.due("allConflicts", x.allConflicts(), conflicts);
        }
    }

    private static void baseOfAMerge() {
        Check.part("terms, promise 14: the base is the commit with the highest number of those that both reach");
        BranchedSource x = Scenes.crossed();
        Scenes.commitLine(x, 0, 1, 7);
        x.switchTo(0);
        Check.due("the base is 2, where the line was 2", x.lineAt(x.base(3, 5), 0, 1), 2);
        Check.due("merge", x.merge(1), 0);
        Check.due("lineOf(0, 1)", x.lineOf(0, 1), 7);
        Check.due("lineOf(0, 0)", x.lineOf(0, 0), 1);
        BranchedSource y = Scenes.crossed();
        Scenes.commitLine(y, 0, 0, 7);
        y.switchTo(0);
        Check.due("the base is 2, where the line was 0", y.merge(1), 1);
        Check.due("theirs", y.theirs(0, 0), 7);
    }
}
