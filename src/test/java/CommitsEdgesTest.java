/** The edges of promises 35 to 44: a test for each sentence. */
public final class CommitsEdgesTest {
    public static void main(String[] args) {
        commitsFromOneToSixty();
        parentsOutOfRange();
        noParent();
        parentsHaveLowerNumbers();
        branchesFromOneToSix();
        branchOutOfRange();
        isBranchOfNone();
        standsAtNone();
        currentAndHeadAtTheEdges();
        asideFromNoneToThree();
        lostFromNoneToAll();
        Check.end();
    }

    private static void commitsFromOneToSixty() {
        Check.part("promise 35: how many commits there are, from 1 to 60");
        BranchedSource x = new BranchedSource();
        Check.due("commits", x.commits(), 1);
        for (int number = 1; number < 60; number++) {
            Scenes.commitLine(x, 0, 0, number);
            Check.due("commits", x.commits(), number + 1);
        }
        x.edit(3, 3, 3);
        Check.dueStateFault("commit", x::commit);
        Check.due("commits", x.commits(), 60);
        x.reset(0);
        Check.due("lost ones count", x.commits(), 60);
        BranchedSource open = Scenes.openMerge();
        Check.due("an open merge is no commit", open.commits(), 3);
    }

    private static void parentsOutOfRange() {
        Check.part("promises 36, 37: IllegalArgumentException if there is no such commit");
        for (int commit : Refused.outside(0, 0)) {
            Refused.byArgument("firstParent(" + commit + ")", Scenes::marked, x -> x.firstParent(commit));
            Refused.byArgument("secondParent(" + commit + ")", Scenes::marked, x -> x.secondParent(commit));
        }
        for (int commit : Refused.outside(0, 3)) {
            Refused.byArgument("firstParent(" + commit + ")", () -> Scenes.fork(Scenes.marked()), x -> x.firstParent(commit));
            Refused.byArgument("secondParent(" + commit + ")", () -> Scenes.fork(Scenes.marked()), x -> x.secondParent(commit));
        }
        BranchedSource full = Scenes.full();
        for (int commit : Refused.outside(0, 59)) {
            Check.dueArgumentFault("firstParent(" + commit + ")", () -> full.firstParent(commit));
            Check.dueArgumentFault("secondParent(" + commit + ")", () -> full.secondParent(commit));
        }
        Check.due("firstParent(59)", full.firstParent(59), 58);
        Check.due("secondParent(59)", full.secondParent(59), -1);
        full.undo();
        Check.dueArgumentFault("firstParent of what is undone", () -> full.firstParent(59));
        Check.dueArgumentFault("secondParent of what is undone", () -> full.secondParent(59));
    }

    private static void noParent() {
        Check.part("promises 36, 37: -1 if it has none");
        BranchedSource x = Scenes.fork();
        x.merge(0);
        Check.due("firstParent of the commit 0", x.firstParent(0), -1);
        for (int commit = 0; commit < 4; commit++) {
            Check.due("secondParent(" + commit + ")", x.secondParent(commit), -1);
        }
        Check.due("a parent can be the commit 0", x.firstParent(1), 0);
        Check.due("secondParent of a merge", x.secondParent(4), 2);
        BranchedSource zero = new BranchedSource();
        zero.newBranch();
        Scenes.commitLine(zero, 0, 0, 1);
        zero.switchTo(1);
        zero.merge(0);
        Check.due("going ahead gives no parent", zero.secondParent(1), -1);
    }

    private static void parentsHaveLowerNumbers() {
        Check.part("terms: each other commit has a first parent, some have a second one; both have lower numbers");
        BranchedSource x = Scenes.crossed();
        Scenes.commitLine(x, 1, 1, 1);
        x.switchTo(0);
        x.merge(1);
        x.revert(1);
        for (int commit = 1; commit < x.commits(); commit++) {
            int first = x.firstParent(commit);
            int second = x.secondParent(commit);
            Check.due("a first parent", first >= 0 && first < commit, true);
            Check.due("a second parent", second >= -1 && second < commit, true);
        }
        Check.due("firstParent(3)", x.firstParent(3), 1);
        Check.due("secondParent(3)", x.secondParent(3), 2);
        Check.due("firstParent(4)", x.firstParent(4), 2);
        Check.due("secondParent(4)", x.secondParent(4), 1);
    }

    private static void branchesFromOneToSix() {
        Check.part("promise 38: how many branches there are, from 1 to 6");
        BranchedSource x = new BranchedSource();
        for (int count = 1; count < 6; count++) {
            Check.due("branches", x.branches(), count);
            x.newBranch();
        }
        Check.due("branches", x.branches(), 6);
        Check.dueStateFault("newBranch", x::newBranch);
        Check.due("branches", x.branches(), 6);
        for (int count = 5; count >= 1; count--) {
            x.dropBranch(count);
            Check.due("branches", x.branches(), count);
        }
        Check.dueStateFault("dropBranch of the last one", () -> x.dropBranch(0));
        Check.due("branches", x.branches(), 1);
    }

    private static void branchOutOfRange() {
        Check.part("promises 39, 40: IllegalArgumentException if branch is out of range, ahead of no such branch");
        for (int branch : BranchesEdgesTest.NO_BRANCH) {
            Refused.byArgument("isBranch(" + branch + ")", Scenes::marked, x -> x.isBranch(branch));
            Refused.byArgument("standsAt(" + branch + ")", Scenes::marked, x -> x.standsAt(branch));
            Refused.byArgument("isBranch(" + branch + ")", () -> Scenes.sixBranches(Scenes.marked()), x -> x.isBranch(branch));
            Refused.byArgument("standsAt(" + branch + ")", () -> Scenes.sixBranches(Scenes.marked()), x -> x.standsAt(branch));
        }
    }

    private static void isBranchOfNone() {
        Check.part("promise 39: whether there is one with this number, from 0 to 5");
        for (int gone = 0; gone < 6; gone++) {
            BranchedSource x = Scenes.sixBranches(new BranchedSource());
            Check.due("isBranch", x.isBranch(gone), true);
            if (gone == 0) {
                x.switchTo(1);
            }
            x.dropBranch(gone);
            for (int branch = 0; branch < 6; branch++) {
                Check.due("isBranch(" + branch + ")", x.isBranch(branch), branch != gone);
            }
        }
    }

    private static void standsAtNone() {
        Check.part("promise 40: IllegalStateException if there is no such branch");
        for (int branch = 1; branch < 6; branch++) {
            int none = branch;
            Refused.byState("standsAt(" + branch + ")", Scenes::marked, x -> x.standsAt(none));
        }
        Refused.byState("standsAt what is dropped", () -> {
            BranchedSource x = Scenes.fork(Scenes.marked());
            x.dropBranch(0);
            return x;
        }, x -> x.standsAt(0));
        BranchedSource x = Scenes.sixBranches(Scenes.fork());
        Check.due("standsAt(0)", x.standsAt(0), 2);
        Check.due("standsAt(5)", x.standsAt(5), 3);
        Check.due("a branch at the commit 0", Scenes.sixBranches(new BranchedSource()).standsAt(5), 0);
    }

    private static void currentAndHeadAtTheEdges() {
        Check.part("promises 41, 42: the current branch is 0 to 5, the head 0 to 59");
        BranchedSource x = Scenes.full();
        Check.due("head", x.head(), 59);
        Scenes.sixBranches(x);
        x.reset(0);
        Check.due("head", x.head(), 0);
        for (int branch = 5; branch >= 1; branch--) {
            x.switchTo(branch);
            Check.due("current", x.current(), branch);
            Check.due("head", x.head(), 59);
        }
        Check.dueStateFault("switchTo", () -> x.switchTo(1));
        Check.due("current", x.current(), 1);
    }

    private static void asideFromNoneToThree() {
        Check.part("promise 43: how many are put aside, from 0 to 3");
        BranchedSource x = new BranchedSource();
        Check.due("aside", x.aside(), 0);
        for (int count = 1; count <= 3; count++) {
            x.edit(0, count, 1);
            x.putAside();
            Check.due("aside", x.aside(), count);
        }
        x.edit(0, 0, 1);
        Check.dueStateFault("putAside", x::putAside);
        Check.due("aside", x.aside(), 3);
        x.commit();
        Check.due("commit leaves them", x.aside(), 3);
        for (int count = 2; count >= 0; count--) {
            x.takeBack();
            Check.due("aside", x.aside(), count);
        }
        x.undo();
        Check.due("aside behind undo", x.aside(), 1);
    }

    private static void lostFromNoneToAll() {
        Check.part("promise 44: how many commits are reached by no branch");
        BranchedSource x = Scenes.full();
        Check.due("none", x.lost(), 0);
        for (int commit = 59; commit >= 0; commit--) {
            x.reset(commit);
            Check.due("lost", x.lost(), 59 - commit);
        }
        BranchedSource last = Scenes.sixBranches(Scenes.full());
        last.switchTo(5);
        for (int branch = 0; branch < 5; branch++) {
            last.reset(0);
            Check.due("reached by another branch", last.lost(), 0);
            last.dropBranch(branch);
        }
        Check.due("reached by none", last.lost(), 59);
        BranchedSource merged = Scenes.fork();
        merged.merge(0);
        merged.dropBranch(0);
        Check.due("reached by a second parent", merged.lost(), 0);
        BranchedSource open = Scenes.openMerge();
        open.dropBranch(0);
        Check.due("the commit that is merged is reached by no branch yet", open.lost(), 1);
    }
}
