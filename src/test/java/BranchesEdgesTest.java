/** The edges of promises 11 to 14: a test for each sentence. */
public final class BranchesEdgesTest {
    public static void main(String[] args) {
        newBranchUpToSix();
        newBranchBeyondSix();
        newBranchTakesTheLowestNumber();
        newBranchLeavesTheRest();
        dropBranchOutOfRange();
        dropBranchOfNone();
        dropBranchOfTheCurrentOne();
        dropBranchLeavesTheRest();
        switchToAtLeastAndGreatest();
        switchToOutOfRange();
        switchToNone();
        switchToTheCurrentOne();
        switchToWithAChange();
        switchToWhileOpen();
        mergeOutOfRange();
        mergeOfNone();
        mergeWithAChange();
        mergeWhileOpen();
        mergeOfWhatIsReached();
        mergeBeyondSixty();
        mergeUpToSixty();
        mergeOfOneThatIsAhead();
        mergeWithTheTreeOfTheHead();
        mergeWithoutAConflict();
        mergeWithAConflict();
        Check.end();
    }

    static final int[] NO_BRANCH = Refused.outside(0, 5);

    /** Each with a branch 0 that is not the current one, and could be gone to if nothing were open. */
    static final Refused.Scene[] OPEN_CLEAN = {
        () -> Scenes.openMergeClean(Scenes.marked()),
        () -> Scenes.openMergeResolved(Scenes.marked()),
        () -> Scenes.openPick(Scenes.marked()),
        () -> resolvedPick(Scenes.marked()),
        () -> Scenes.openHighMerge(Scenes.marked()),
    };

    private static BranchedSource resolvedPick(BranchedSource x) {
        Scenes.openPick(x);
        x.resolve(0, 0, false);
        return x;
    }

    static BranchedSource forkWithChange() {
        BranchedSource x = Scenes.fork(Scenes.marked());
        x.edit(3, 3, 3);
        return x;
    }

    private static void newBranchUpToSix() {
        Check.part("promise 11, terms: there are at most 6 branches, with numbers from 0 to 5");
        BranchedSource x = new BranchedSource();
        for (int number = 1; number <= 5; number++) {
            Check.due("newBranch", x.newBranch(), number);
            Check.due("branches", x.branches(), number + 1);
            Check.due("isBranch", x.isBranch(number), true);
        }
    }

    private static void newBranchBeyondSix() {
        Check.part("promise 11: IllegalStateException if there are 6 branches");
        Refused.byState("newBranch", () -> Scenes.sixBranches(Scenes.marked()), x -> x.newBranch());
        Refused.byState("newBranch", () -> Scenes.sixBranches(Scenes.fork(Scenes.marked())), x -> x.newBranch());
        Refused.byState("newBranch while one is open", () -> Scenes.sixBranches(Scenes.openMerge(Scenes.marked())),
            x -> x.newBranch());
        BranchedSource x = Scenes.sixBranches(new BranchedSource());
        x.dropBranch(5);
        Check.due("newBranch behind dropBranch", x.newBranch(), 5);
    }

    private static void newBranchTakesTheLowestNumber() {
        Check.part("promise 11: with the lowest number that none has");
        for (int gone = 1; gone <= 5; gone++) {
            BranchedSource x = Scenes.sixBranches(new BranchedSource());
            x.dropBranch(gone);
            Check.due("newBranch", x.newBranch(), gone);
        }
        BranchedSource x = Scenes.sixBranches(new BranchedSource());
        x.switchTo(5);
        for (int gone = 4; gone >= 0; gone--) {
            x.dropBranch(gone);
        }
        Check.due("branches", x.branches(), 1);
        Scenes.commitLine(x, 0, 0, 1);
        for (int number = 0; number < 5; number++) {
            Check.due("newBranch", x.newBranch(), number);
            Check.due("standsAt", x.standsAt(number), 1);
        }
        Check.dueStateFault("newBranch", x::newBranch);
    }

    private static void newBranchLeavesTheRest() {
        Check.part("promise 11: the current branch stays; what is open stays open");
        for (Refused.Scene scene : OPEN_CLEAN) {
            BranchedSource x = scene.made();
            int current = x.current();
            int conflicts = x.conflicts();
            boolean isMerging = x.isMerging();
            int count = x.branches();
            int made = x.newBranch();
            Check.due("newBranch", made, count);
            Check.due("standsAt", x.standsAt(made), x.head());
            Check.due("current", x.current(), current);
            Check.due("conflicts", x.conflicts(), conflicts);
            Check.due("isMerging", x.isMerging(), isMerging);
            Check.due("isPicking", x.isPicking(), !isMerging);
        }
        BranchedSource x = forkWithChange();
        x.newBranch();
        Check.due("changed", x.changed(), 1);
        Check.due("current", x.current(), 1);
    }

    private static void dropBranchOutOfRange() {
        Check.part("promise 12: IllegalArgumentException if branch is out of range");
        for (int branch : NO_BRANCH) {
            Refused.byArgument("dropBranch(" + branch + ")", Scenes::marked, x -> x.dropBranch(branch));
            Refused.byArgument("dropBranch(" + branch + ")", () -> Scenes.sixBranches(Scenes.fork(Scenes.marked())),
                x -> x.dropBranch(branch));
        }
    }

    private static void dropBranchOfNone() {
        Check.part("promise 12: IllegalStateException if there is no such branch");
        for (int branch = 2; branch <= 5; branch++) {
            int none = branch;
            Refused.byState("dropBranch(" + branch + ")", () -> Scenes.fork(Scenes.marked()), x -> x.dropBranch(none));
        }
        Refused.byState("dropBranch of one that is dropped", () -> {
            BranchedSource x = Scenes.fork(Scenes.marked());
            x.dropBranch(0);
            return x;
        }, x -> x.dropBranch(0));
    }

    private static void dropBranchOfTheCurrentOne() {
        Check.part("promise 12: IllegalStateException if it is the current one");
        Refused.byState("dropBranch(0)", Scenes::marked, x -> x.dropBranch(0));
        Refused.byState("dropBranch(1)", () -> Scenes.fork(Scenes.marked()), x -> x.dropBranch(1));
        Refused.byState("dropBranch(5)", () -> {
            BranchedSource x = Scenes.sixBranches(Scenes.marked());
            x.switchTo(5);
            return x;
        }, x -> x.dropBranch(5));
    }

    private static void dropBranchLeavesTheRest() {
        Check.part("promise 12: all commits stay, and what is open stays open; returns the commit at which it stood");
        BranchedSource x = Scenes.fork();
        Check.due("dropBranch", x.dropBranch(0), 2);
        Check.due("commits", x.commits(), 4);
        Check.due("lineAt", x.lineAt(2, 0, 1), 6);
        Check.due("lost", x.lost(), 1);
        Check.due("reset to its commit", x.reset(2), 3);
        for (Refused.Scene scene : OPEN_CLEAN) {
            BranchedSource open = scene.made();
            int conflicts = open.conflicts();
            boolean isMerging = open.isMerging();
            int stood = open.standsAt(0);
            Check.due("dropBranch", open.dropBranch(0), stood);
            Check.due("conflicts", open.conflicts(), conflicts);
            Check.due("isMerging", open.isMerging(), isMerging);
            Check.due("isPicking", open.isPicking(), !isMerging);
        }
        BranchedSource merged = Scenes.openMergeResolved(new BranchedSource());
        merged.dropBranch(0);
        Check.due("commit of the merge", merged.commit(), 3);
        Check.due("secondParent", merged.secondParent(3), 1);
        BranchedSource changed = forkWithChange();
        changed.dropBranch(0);
        Check.due("changed", changed.changed(), 1);
        BranchedSource atZero = new BranchedSource();
        atZero.newBranch();
        Check.due("dropBranch at the commit 0", atZero.dropBranch(1), 0);
    }

    private static void switchToAtLeastAndGreatest() {
        Check.part("promise 13: branch is 0 to 5; the working tree is clean then; returns the head then");
        BranchedSource x = Scenes.sixBranches(Scenes.fork());
        int[] stand = {2, 3, 3, 3, 3, 3};
        for (int branch : new int[] {0, 5, 0, 1}) {
            Check.due("switchTo(" + branch + ")", x.switchTo(branch), stand[branch]);
            Check.due("current", x.current(), branch);
            Check.due("head", x.head(), stand[branch]);
            Check.due("changed", x.changed(), 0);
            for (int place = 0; place < 24; place++) {
                Check.due("lineOf", x.lineOf(place / 6, place % 6), x.lineAt(stand[branch], place / 6, place % 6));
            }
        }
    }

    private static void switchToOutOfRange() {
        Check.part("promise 13: IllegalArgumentException if branch is out of range, ahead of all other reasons");
        for (int branch : NO_BRANCH) {
            Refused.byArgument("switchTo(" + branch + ")", () -> Scenes.fork(Scenes.marked()), x -> x.switchTo(branch));
            Refused.byArgument("switchTo(" + branch + ") with a change", BranchesEdgesTest::forkWithChange, x -> x.switchTo(branch));
            Refused.byArgument("switchTo(" + branch + ") while one is open", OPEN_CLEAN[0], x -> x.switchTo(branch));
        }
    }

    private static void switchToNone() {
        Check.part("promise 13: IllegalStateException if there is no such branch");
        for (int branch = 2; branch <= 5; branch++) {
            int none = branch;
            Refused.byState("switchTo(" + branch + ")", () -> Scenes.fork(Scenes.marked()), x -> x.switchTo(none));
        }
        Refused.byState("switchTo one that is dropped", () -> {
            BranchedSource x = Scenes.fork(Scenes.marked());
            x.dropBranch(0);
            return x;
        }, x -> x.switchTo(0));
    }

    private static void switchToTheCurrentOne() {
        Check.part("promise 13: IllegalStateException if it is the current one");
        Refused.byState("switchTo(0)", Scenes::marked, x -> x.switchTo(0));
        Refused.byState("switchTo(1)", () -> Scenes.fork(Scenes.marked()), x -> x.switchTo(1));
    }

    private static void switchToWithAChange() {
        Check.part("promise 13: IllegalStateException if the working tree is not clean");
        Refused.byState("switchTo(0)", BranchesEdgesTest::forkWithChange, x -> x.switchTo(0));
        Refused.byState("switchTo a branch at the head", () -> {
            BranchedSource x = forkWithChange();
            x.newBranch();
            return x;
        }, x -> x.switchTo(2));
        BranchedSource x = forkWithChange();
        x.edit(3, 3, 0);
        Check.due("switchTo when it is edited back", x.switchTo(0), 2);
        BranchedSource aside = forkWithChange();
        aside.putAside();
        Check.due("switchTo when it is aside", aside.switchTo(0), 2);
        Check.due("aside", aside.aside(), 1);
    }

    private static void switchToWhileOpen() {
        Check.part("promise 13: IllegalStateException if something is open");
        for (Refused.Scene scene : OPEN_CLEAN) {
            Check.due("changed", scene.made().changed(), 0);
            Refused.byState("switchTo(0)", scene, x -> x.switchTo(0));
            BranchedSource x = scene.made();
            x.abort();
            Check.due("switchTo behind abort", x.switchTo(0), x.standsAt(0));
        }
        Refused.byState("switchTo while a revert is open", () -> Scenes.openRevert(Scenes.marked()), x -> x.switchTo(1));
    }

    private static void mergeOutOfRange() {
        Check.part("promise 14: IllegalArgumentException if branch is out of range, ahead of all other reasons");
        for (int branch : NO_BRANCH) {
            Refused.byArgument("merge(" + branch + ")", () -> Scenes.fork(Scenes.marked()), x -> x.merge(branch));
            Refused.byArgument("merge(" + branch + ") with a change", BranchesEdgesTest::forkWithChange, x -> x.merge(branch));
            Refused.byArgument("merge(" + branch + ") while one is open", OPEN_CLEAN[0], x -> x.merge(branch));
            Refused.byArgument("merge(" + branch + ") with 60 commits", () -> Scenes.full(Scenes.marked()), x -> x.merge(branch));
        }
    }

    private static void mergeOfNone() {
        Check.part("promise 14: IllegalStateException if there is no such branch");
        for (int branch = 2; branch <= 5; branch++) {
            int none = branch;
            Refused.byState("merge(" + branch + ")", () -> Scenes.fork(Scenes.marked()), x -> x.merge(none));
        }
        Refused.byState("merge of one that is dropped", () -> {
            BranchedSource x = Scenes.fork(Scenes.marked());
            x.dropBranch(0);
            return x;
        }, x -> x.merge(0));
    }

    private static void mergeWithAChange() {
        Check.part("promise 14: IllegalStateException if the working tree is not clean");
        Refused.byState("merge(0)", BranchesEdgesTest::forkWithChange, x -> x.merge(0));
        Refused.byState("merge of one that is ahead", () -> {
            BranchedSource x = Scenes.fork(Scenes.marked());
            x.reset(1);
            x.edit(3, 3, 3);
            return x;
        }, x -> x.merge(0));
        BranchedSource x = forkWithChange();
        x.edit(3, 3, 0);
        Check.due("merge when it is edited back", x.merge(0), 0);
    }

    private static void mergeWhileOpen() {
        Check.part("promise 14: IllegalStateException if something is open");
        for (Refused.Scene scene : OPEN_CLEAN) {
            Refused.byState("merge(0)", scene, x -> x.merge(0));
        }
        Refused.byState("merge while a revert is open", () -> {
            BranchedSource x = Scenes.apart(Scenes.marked(), 4, true);
            Scenes.commitLine(x, 0, 0, 80);
            Scenes.commitLine(x, 0, 0, 70);
            x.revert(1);
            return x;
        }, x -> x.merge(0));
        BranchedSource x = Scenes.openMergeClean(new BranchedSource());
        x.abort();
        Check.due("merge behind abort", x.merge(0), 4);
    }

    private static void mergeOfWhatIsReached() {
        Check.part("promise 14: IllegalStateException if the head reaches the commit of the branch");
        Refused.byState("merge of the current one", () -> Scenes.fork(Scenes.marked()), x -> x.merge(1));
        Refused.byState("merge of a branch at the head", () -> Scenes.sixBranches(Scenes.fork(Scenes.marked())), x -> x.merge(5));
        Refused.byState("merge of a first parent", () -> {
            BranchedSource x = Scenes.fork(Scenes.marked());
            x.newBranch();
            Scenes.commitLine(x, 3, 3, 3);
            return x;
        }, x -> x.merge(2));
        Refused.byState("merge of a second parent", () -> {
            BranchedSource x = Scenes.fork(Scenes.marked());
            x.merge(0);
            return x;
        }, x -> x.merge(0));
        Refused.byState("merge of the commit 0", () -> {
            BranchedSource x = Scenes.marked();
            x.newBranch();
            return Scenes.upTo(x, 3);
        }, x -> x.merge(1));
    }

    private static void mergeBeyondSixty() {
        Check.part("promise 14: IllegalStateException if a commit would be made, now or in the end, but there are 60");
        Refused.byState("merge without a conflict", () -> Scenes.apart(Scenes.marked(), 60, false), x -> x.merge(0));
        Refused.byState("merge with a conflict", () -> Scenes.apart(Scenes.marked(), 60, true), x -> x.merge(0));
        Check.due("the conflict", Scenes.apart(new BranchedSource(), 60, true).wouldConflict(0), 1);
        Check.due("no conflict", Scenes.apart(new BranchedSource(), 60, false).wouldConflict(0), 0);
    }

    private static void mergeUpToSixty() {
        Check.part("promise 14: with 59 commits the sixtieth is made, now or in the end");
        BranchedSource x = Scenes.apart(new BranchedSource(), 59, false);
        Check.due("merge without a conflict", x.merge(0), 0);
        Check.due("commits", x.commits(), 60);
        Check.due("head", x.head(), 59);
        Check.due("secondParent", x.secondParent(59), 58);
        BranchedSource y = Scenes.apart(new BranchedSource(), 59, true);
        Check.due("merge with a conflict", y.merge(0), 1);
        Check.due("commits", y.commits(), 59);
        y.resolve(0, 0, true);
        Check.due("commit", y.commit(), 59);
        Check.due("secondParent", y.secondParent(59), 58);
    }

    private static void mergeOfOneThatIsAhead() {
        Check.part("promise 14: if the commit of the other branch reaches the head, the current branch stands there then");
        BranchedSource full = Scenes.full();
        full.newBranch();
        full.switchTo(1);
        full.reset(0);
        Check.due("merge with 60 commits", full.merge(0), 0);
        Check.due("head", full.head(), 59);
        Check.due("commits", full.commits(), 60);
        Check.due("merges", full.merges(), 0);
        Check.due("lineOf", full.lineOf(0, 0), 59);
        Check.due("changed", full.changed(), 0);
        BranchedSource x = Scenes.fork();
        x.merge(0);
        x.switchTo(0);
        Check.due("merge of one that is ahead by a second parent", x.merge(1), 0);
        Check.due("head", x.head(), 4);
        Check.due("commits", x.commits(), 5);
        Check.due("current", x.current(), 0);
        Check.due("the other one stays", x.standsAt(1), 4);
        Check.due("lineOf", x.lineOf(0, 2), 7);
        Check.due("isMerging", x.isMerging(), false);
        Check.due("allConflicts", x.allConflicts(), 0);
    }

    private static void mergeWithTheTreeOfTheHead() {
        Check.part("promise 14: a commit is made at once (also if the tree is that of the head)");
        BranchedSource x = Scenes.fork();
        Scenes.commitLine(x, 0, 1, 6);
        Check.due("merge of what is there", x.merge(0), 0);
        Check.due("head", x.head(), 5);
        Check.due("differences", x.differences(5, 4), 0);
        Check.due("firstParent", x.firstParent(5), 4);
        Check.due("secondParent", x.secondParent(5), 2);
        BranchedSource y = Scenes.fork();
        y.switchTo(0);
        y.revert(2);
        y.switchTo(1);
        Check.due("merge of a change and its revert", y.merge(0), 0);
        Check.due("head", y.head(), 5);
        Check.due("differences", y.differences(5, 3), 0);
        Check.due("merges", y.merges(), 1);
    }

    private static void mergeWithoutAConflict() {
        Check.part("promise 14: with the head as the first parent and that commit as the second one; nothing is open");
        BranchedSource x = Scenes.fork();
        Check.due("merge", x.merge(0), 0);
        Check.due("firstParent", x.firstParent(4), 3);
        Check.due("secondParent", x.secondParent(4), 2);
        Check.due("isMerging", x.isMerging(), false);
        Check.due("standsAt(0)", x.standsAt(0), 2);
        Check.dueStateFault("abort", x::abort);
        Check.due("the next commit", Scenes.commitLine(x, 3, 3, 3), 5);
        Check.due("has one parent", x.secondParent(5), -1);
    }

    private static void mergeWithAConflict() {
        Check.part("promise 14: with conflicts the merge is open; returns how many lines are in conflict");
        BranchedSource x = new BranchedSource();
        x.newBranch();
        fill(x, 40);
        x.switchTo(1);
        fill(x, 50);
        Check.due("merge with all lines in conflict", x.merge(0), 24);
        Check.due("isMerging", x.isMerging(), true);
        Check.due("conflicts", x.conflicts(), 24);
        Check.due("commits", x.commits(), 3);
        Check.due("head", x.head(), 2);
        Check.due("changed", x.changed(), 0);
        BranchedSource one = Scenes.apart(new BranchedSource(), 2, true);
        one.switchTo(0);
        Scenes.commitLine(one, 0, 0, 1);
        Check.due("merge with one line in conflict", one.merge(1), 1);
        Check.due("isMerging", one.isMerging(), true);
        Check.due("theirs", one.theirs(0, 0), 90);
    }

    private static void fill(BranchedSource x, int first) {
        for (int place = 0; place < 24; place++) {
            x.edit(place / 6, place % 6, first + place);
        }
        x.commit();
    }
}
