/** Objects in states from which tests go on. */
final class Scenes {
    private Scenes() {
    }

    /** The same state with one state recorded; the snapshot is that state then. */
    static BranchedSource drained(BranchedSource x) {
        x.keep();
        for (int count = 0; count < 5; count++) {
            try {
                x.undo();
            } catch (IllegalStateException e) {
                break;
            }
        }
        x.goBack();
        return x;
    }

    static int commitLine(BranchedSource x, int file, int line, int value) {
        x.edit(file, line, value);
        return x.commit();
    }

    static void typeAll(BranchedSource x, String text) {
        x.clearPad();
        for (int i = 0; i < text.length(); i++) {
            x.type(text.charAt(i));
        }
    }

    static int run(BranchedSource x, String text) {
        typeAll(x, text);
        return x.runOrders();
    }

    /** Commit 1 on both branches; commit 2 on branch 0, commit 3 on branch 1, which is the current one. */
    static BranchedSource fork() {
        return fork(new BranchedSource());
    }

    static BranchedSource fork(BranchedSource x) {
        commitLine(x, 0, 0, 5);
        x.newBranch();
        commitLine(x, 0, 1, 6);
        x.switchTo(1);
        commitLine(x, 0, 2, 7);
        return x;
    }

    /** A merge of branch 0 into branch 1 is open, with conflicts in the lines 0, 1, 3 of file 1 and 0 of file 2. */
    static BranchedSource openMerge() {
        return openMerge(new BranchedSource());
    }

    static BranchedSource openMerge(BranchedSource x) {
        x.newBranch();
        setFour(x, 2);
        x.edit(3, 3, 4);
        x.commit();
        x.switchTo(1);
        setFour(x, 3);
        x.commit();
        x.merge(0);
        return x;
    }

    private static void setFour(BranchedSource x, int value) {
        x.edit(1, 0, value);
        x.edit(1, 1, value);
        x.edit(1, 3, value);
        x.edit(2, 0, value);
    }

    /** Commits 1 to 3 on branch 0 in one line; a pick of commit 3 on branch 1, which stands at 1, is open. */
    static BranchedSource openPick() {
        return openPick(new BranchedSource());
    }

    static BranchedSource openPick(BranchedSource x) {
        commitLine(x, 0, 0, 1);
        x.newBranch();
        commitLine(x, 0, 0, 2);
        commitLine(x, 0, 0, 3);
        x.switchTo(1);
        x.pick(3);
        return x;
    }

    /**
     * Two branches that merged one another: 1 and 2 are made from 0, 3 = 1 with 2, 4 = 2 with 1.
     * Branch 0 stands at 3, branch 1, the current one, at 4, branch 2 at 1, branch 3 at 2.
     */
    static BranchedSource crossed() {
        return crossedAbove(0);
    }

    /** The same above so many commits in one row: all numbers but 0 are higher by as many. */
    static BranchedSource crossedAbove(int commits) {
        BranchedSource x = new BranchedSource();
        for (int k = 0; k < commits; k++) {
            commitLine(x, 3, 5, 10 + k);
        }
        x.newBranch();
        commitLine(x, 0, 0, 1);
        x.newBranch();
        x.switchTo(1);
        commitLine(x, 0, 1, 2);
        x.newBranch();
        x.switchTo(0);
        x.merge(1);
        x.switchTo(1);
        x.merge(2);
        return x;
    }

    /** As many commits as there can be, on branch 0: commit k has k in the line 0 of file 0. */
    static BranchedSource full() {
        return full(new BranchedSource());
    }

    static BranchedSource full(BranchedSource x) {
        return upTo(x, 60);
    }

    /** Commits on the current branch until there are so many: commit k has k in the line 0 of file 0. */
    static BranchedSource upTo(BranchedSource x, int commits) {
        for (int k = x.commits(); k < commits; k++) {
            commitLine(x, 0, 0, k);
        }
        return x;
    }

    /**
     * A new object but for a snapshot and a text in the pad: a scene that begins with it shows
     * whether a call that is refused leaves both alone. Nothing is recorded.
     */
    static BranchedSource marked() {
        BranchedSource x = new BranchedSource();
        x.edit(3, 4, 77);
        x.keep();
        x.undo();
        typeAll(x, "b;3.4=66;c;");
        return x;
    }

    /** A revert of commit 1 is open, with the line 0 of file 0 (3, theirs 0) in conflict; commits 1 to 3 on branch 0. */
    static BranchedSource openRevert(BranchedSource x) {
        commitLine(x, 0, 0, 1);
        commitLine(x, 0, 0, 2);
        commitLine(x, 0, 0, 3);
        x.newBranch();
        x.revert(1);
        return x;
    }

    /**
     * A merge of branch 0, which stands at commit 4, into branch 2, which stands at commit 5, is open;
     * the line 0 of file 0 (50, theirs 4) is in conflict.
     */
    static BranchedSource openHighMerge(BranchedSource x) {
        x.newBranch();
        x.newBranch();
        upTo(x, 5);
        x.switchTo(2);
        commitLine(x, 0, 0, 50);
        x.merge(0);
        return x;
    }

    /** An open merge as that of openMerge, but with a working tree that is clean. */
    static BranchedSource openMergeClean(BranchedSource x) {
        openMerge(x);
        x.edit(3, 3, 0);
        return x;
    }

    /** An open merge in which no line is in conflict any longer, with a working tree that is clean. */
    static BranchedSource openMergeResolved(BranchedSource x) {
        openMergeClean(x);
        x.resolve(1, 0, false);
        x.resolve(1, 1, false);
        x.resolve(1, 3, false);
        x.resolve(2, 0, false);
        return x;
    }

    /** As many branches as there can be; the new ones stand at the head. */
    static BranchedSource sixBranches(BranchedSource x) {
        for (int count = x.branches(); count < 6; count++) {
            x.newBranch();
        }
        return x;
    }

    /** Three are aside: the lines 1, 2 and 3 of file 2, each set to its number. */
    static BranchedSource threeAside(BranchedSource x) {
        for (int line = 1; line <= 3; line++) {
            x.edit(2, line, line);
            x.putAside();
        }
        return x;
    }

    /**
     * Branch 0 at the last of so many commits, branch 1, the current one, at one of its own made from the
     * commit 0; both have set the line 0 of file 0 if they conflict, else branch 1 has set the line 5 of file 3.
     */
    static BranchedSource apart(BranchedSource x, int commits, boolean isWithConflict) {
        x.newBranch();
        x.switchTo(1);
        commitLine(x, isWithConflict ? 0 : 3, isWithConflict ? 0 : 5, 90);
        x.switchTo(0);
        upTo(x, commits);
        x.switchTo(1);
        return x;
    }
}
