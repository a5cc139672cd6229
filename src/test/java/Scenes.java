/** Objects in states from which tests go on. */
final class Scenes {
    private Scenes() {
    }

    static int commitLine(BranchedSource x, int file, int line, int value) {
        x.edit(file, line, value);
        return x.commit();
    }

    static void typeAll(BranchedSource x, String text) {
        x.clearPad();
        for (int i = 0; i < text.length(); i++) {
            x.type(text.charAt(i));
        }
    }

    static int run(BranchedSource x, String text) {
        typeAll(x, text);
        return x.runOrders();
    }

    /** Commit 1 on both branches; commit 2 on branch 0, commit 3 on branch 1, which is the current one. */
    static BranchedSource fork() {
        BranchedSource x = new BranchedSource();
        commitLine(x, 0, 0, 5);
        x.newBranch();
        commitLine(x, 0, 1, 6);
        x.switchTo(1);
        commitLine(x, 0, 2, 7);
        return x;
    }

    /** A merge of branch 0 into branch 1 is open, with conflicts in the lines 0, 1, 3 of file 1 and 0 of file 2. */
    static BranchedSource openMerge() {
        BranchedSource x = new BranchedSource();
        x.newBranch();
        setFour(x, 2);
        x.edit(3, 3, 4);
        x.commit();
        x.switchTo(1);
        setFour(x, 3);
        x.commit();
        x.merge(0);
        return x;
    }

    private static void setFour(BranchedSource x, int value) {
        x.edit(1, 0, value);
        x.edit(1, 1, value);
        x.edit(1, 3, value);
        x.edit(2, 0, value);
    }

    /** Commits 1 to 3 on branch 0 in one line; a pick of commit 3 on branch 1, which stands at 1, is open. */
    static BranchedSource openPick() {
        BranchedSource x = new BranchedSource();
        commitLine(x, 0, 0, 1);
        x.newBranch();
        commitLine(x, 0, 0, 2);
        commitLine(x, 0, 0, 3);
        x.switchTo(1);
        x.pick(3);
        return x;
    }

    /**
     * Two branches that merged one another: 1 and 2 are made from 0, 3 = 1 with 2, 4 = 2 with 1.
     * Branch 0 stands at 3, branch 1, the current one, at 4, branch 2 at 1, branch 3 at 2.
     */
    static BranchedSource crossed() {
        BranchedSource x = new BranchedSource();
        x.newBranch();
        commitLine(x, 0, 0, 1);
        x.newBranch();
        x.switchTo(1);
        commitLine(x, 0, 1, 2);
        x.newBranch();
        x.switchTo(0);
        x.merge(1);
        x.switchTo(1);
        x.merge(2);
        return x;
    }

    /** As many commits as there can be, on branch 0: commit k has k in the line 0 of file 0. */
    static BranchedSource full() {
        BranchedSource x = new BranchedSource();
        for (int k = 1; k < 60; k++) {
            commitLine(x, 0, 0, k);
        }
        return x;
    }
}
