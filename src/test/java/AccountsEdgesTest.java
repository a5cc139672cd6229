/** The edges of promises 53 to 56: a test for each sentence. */
public final class AccountsEdgesTest {
    public static void main(String[] args) {
        branchOutOfRange();
        noSuchBranch();
        askedFirst();
        ofTheCurrentOneAndOfReachedOnes();
        ofOneThatIsAhead();
        fromNoneToAll();
        withTheTreeOfTheHead();
        asTheMergeDoes();
        withSixtyCommits();
        changesNothing();
        mergesFromNone();
        mergesUpToSixtyCommits();
        allConflictsFromNone();
        allConflictsOfEachKind();
        allConflictsOfWhatIsRefused();
        allConflictsBelongToTheState();
        Check.end();
    }

    private static void branchOutOfRange() {
        Check.part("promises 53, 54: IllegalArgumentException if branch is out of range, ahead of no such branch");
        for (int branch : BranchesEdgesTest.NO_BRANCH) {
            Refused.Scene six = () -> Scenes.sixBranches(Scenes.fork(Scenes.marked()));
            for (Refused.Scene scene : new Refused.Scene[] {Scenes::marked, six}) {
                Refused.byArgument("wouldConflict(" + branch + ")", scene, x -> x.wouldConflict(branch));
                Refused.byArgument("wouldBecome(" + branch + ")", scene, x -> x.wouldBecome(branch));
            }
        }
    }

    private static void noSuchBranch() {
        Check.part("promises 53, 54: IllegalStateException if there is no such branch");
        for (int branch = 2; branch < 6; branch++) {
            int none = branch;
            Refused.byState("wouldConflict(" + branch + ")", () -> Scenes.fork(Scenes.marked()), x -> x.wouldConflict(none));
            Refused.byState("wouldBecome(" + branch + ")", () -> Scenes.fork(Scenes.marked()), x -> x.wouldBecome(none));
        }
        Refused.Scene dropped = () -> {
            BranchedSource x = Scenes.fork(Scenes.marked());
            x.dropBranch(0);
            return x;
        };
        Refused.byState("wouldConflict of what is dropped", dropped, x -> x.wouldConflict(0));
        Refused.byState("wouldBecome of what is dropped", dropped, x -> x.wouldBecome(0));
    }

    private static void due(BranchedSource x, int branch, int conflicts, int becoming) {
        Check.due("wouldConflict(" + branch + ")", x.wouldConflict(branch), conflicts);
        Check.due("wouldBecome(" + branch + ")", x.wouldBecome(branch), becoming);
    }

    /** Each question stands alone: its answer does not hang on those that were asked before. */
    private static void askedFirst() {
        Check.part("promises 53, 54: the first question of an object, and one behind another");
        BranchedSource becoming = sides(5, false);
        Check.due("wouldBecome", becoming.wouldBecome(0), 5);
        Check.due("wouldBecome of the current one", becoming.wouldBecome(1), 0);
        Check.due("wouldBecome again", becoming.wouldBecome(0), 5);
        BranchedSource conflicting = sides(5, true);
        Check.due("wouldConflict", conflicting.wouldConflict(0), 5);
        Check.due("wouldConflict of the current one", conflicting.wouldConflict(1), 0);
        Check.due("wouldBecome", conflicting.wouldBecome(0), 19);
        Check.due("wouldConflict again", conflicting.wouldConflict(0), 5);
    }

    private static void ofTheCurrentOneAndOfReachedOnes() {
        Check.part("promises 53, 54: 0 of the current branch, and of a branch that the head reaches");
        due(new BranchedSource(), 0, 0, 0);
        BranchedSource x = Scenes.sixBranches(Scenes.fork());
        due(x, 1, 0, 0);
        due(x, 5, 0, 0);
        x.switchTo(5);
        Scenes.commitLine(x, 0, 2, 50);
        due(x, 1, 0, 0);
        x.merge(0);
        due(x, 0, 0, 0);
    }

    private static void ofOneThatIsAhead() {
        Check.part("promises 53, 54: of a branch that reaches the head all its changes");
        BranchedSource x = Scenes.fork();
        x.reset(0);
        due(x, 0, 0, 2);
        x.reset(1);
        due(x, 0, 0, 1);
    }

    private static void fromNoneToAll() {
        Check.part("promises 53, 54: how many lines, from 0 to 24");
        for (int count = 0; count <= 24; count++) {
            BranchedSource conflicting = sides(count, true);
            due(conflicting, 0, count, 24 - count);
            BranchedSource becoming = sides(count, false);
            due(becoming, 0, 0, count);
        }
    }

    /** Branch 0 set all lines or, if they do not conflict, so many; branch 1, the current one, so many in its own way. */
    private static BranchedSource sides(int count, boolean isWithConflict) {
        BranchedSource x = new BranchedSource();
        x.newBranch();
        for (int place = 0; place < (isWithConflict ? 24 : count); place++) {
            x.edit(place / 6, place % 6, 10);
        }
        if (x.changed() > 0) {
            x.commit();
        }
        x.switchTo(1);
        for (int place = 0; place < count; place++) {
            x.edit(place / 6, place % 6, isWithConflict ? 20 : 0);
        }
        if (x.changed() > 0) {
            x.commit();
        }
        return x;
    }

    private static void withTheTreeOfTheHead() {
        Check.part("promises 53, 54: combined with the tree of the head, not with the working tree");
        BranchedSource x = Scenes.fork();
        x.edit(0, 1, 50);
        due(x, 0, 0, 1);
        x.edit(0, 1, 6);
        due(x, 0, 0, 1);
        x.edit(0, 1, 0);
        due(x, 0, 0, 1);
        BranchedSource open = Scenes.openMerge();
        due(open, 0, 4, 1);
        open.resolve(1, 0, true);
        open.edit(1, 1, 0);
        due(open, 0, 4, 1);
        due(Scenes.openPick(), 0, 0, 1);
    }

    private static void asTheMergeDoes() {
        Check.part("promises 53, 54: the change from the tree of the base to the tree of that commit");
        BranchedSource x = Scenes.openMerge();
        x.abort();
        int conflicts = x.wouldConflict(0);
        int becoming = x.wouldBecome(0);
        Check.due("merge", x.merge(0), conflicts);
        Check.due("changed", x.changed(), becoming);
        BranchedSource crossed = Scenes.crossed();
        Scenes.commitLine(crossed, 0, 0, 9);
        Scenes.commitLine(crossed, 0, 1, 0);
        crossed.switchTo(0);
        due(crossed, 1, 1, 1);
        Check.due("merge", crossed.merge(1), 1);
        Check.due("changed", crossed.changed(), 1);
    }

    private static void withSixtyCommits() {
        Check.part("promises 53, 54: with 60 commits too");
        due(Scenes.apart(new BranchedSource(), 60, false), 0, 0, 1);
        due(Scenes.apart(new BranchedSource(), 60, true), 0, 1, 0);
    }

    private static void changesNothing() {
        Check.part("promises 53, 54: a question changes nothing");
        for (int way = 0; way < Look.WAYS; way++) {
            BranchedSource x = Scenes.openMerge(Scenes.marked());
            x.wouldConflict(0);
            x.wouldBecome(0);
            x.wouldConflict(1);
            x.wouldBecome(1);
            Check.dueText("what is behind them", Look.by(way, x), Look.by(way, Scenes.openMerge(Scenes.marked())));
        }
    }

    private static void mergesFromNone() {
        Check.part("promise 55: how many commits with two parents there are");
        BranchedSource x = new BranchedSource();
        Check.due("none", x.merges(), 0);
        x.newBranch();
        Scenes.commitLine(x, 0, 0, 1);
        x.switchTo(1);
        x.merge(0);
        Check.due("going ahead", x.merges(), 0);
        BranchedSource crossed = Scenes.crossed();
        Check.due("two", crossed.merges(), 2);
        crossed.reset(0);
        Check.due("lost ones", crossed.merges(), 2);
        crossed.undo();
        crossed.undo();
        Check.due("behind undo", crossed.merges(), 1);
        BranchedSource replayed = Scenes.fork();
        replayed.merge(0);
        replayed.newBranch();
        replayed.switchTo(0);
        Scenes.commitLine(replayed, 3, 3, 3);
        replayed.switchTo(1);
        Check.due("a merge that is replayed has one parent", replayed.replay(0), 1);
        Check.due("merges", replayed.merges(), 1);
        BranchedSource open = Scenes.openMerge();
        Check.due("an open one", open.merges(), 0);
        open.resolve(1, 0, true);
        open.resolve(1, 1, true);
        open.resolve(1, 3, true);
        open.resolve(2, 0, true);
        open.commit();
        Check.due("when it is committed", open.merges(), 1);
    }

    private static void mergesUpToSixtyCommits() {
        Check.part("promise 55: of 60 commits as many as can be merges");
        BranchedSource x = Scenes.apart(new BranchedSource(), 3, false);
        int count = 0;
        while (x.commits() < 60) {
            x.merge(1 - x.current());
            count++;
            Check.due("merges", x.merges(), count);
            if (x.commits() < 59) {
                x.switchTo(1 - x.current());
                Scenes.commitLine(x, 2, x.current(), x.commits());
            } else {
                Scenes.upTo(x, 60);
            }
        }
        Check.due("many", x.merges(), 29);
    }

    private static void allConflictsFromNone() {
        Check.part("promise 56: returns how many so far");
        Check.due("none", new BranchedSource().allConflicts(), 0);
        BranchedSource x = Scenes.fork();
        x.merge(0);
        Check.due("a merge without a conflict", x.allConflicts(), 0);
        for (int count = 1; count <= 24; count++) {
            BranchedSource sides = sides(count, true);
            sides.merge(0);
            Check.due("allConflicts", sides.allConflicts(), count);
        }
    }

    private static void allConflictsOfEachKind() {
        Check.part("promise 56: when merges, picks and reverts began, all together");
        BranchedSource x = Scenes.openMerge();
        Check.due("a merge", x.allConflicts(), 4);
        x.resolve(1, 0, true);
        x.edit(1, 1, 9);
        Check.due("resolved ones count", x.allConflicts(), 4);
        x.abort();
        Check.due("aborted ones count", x.allConflicts(), 4);
        x.pick(1);
        Check.due("a pick", x.allConflicts(), 8);
        x.reset(2);
        x.revert(1);
        Check.due("a revert", x.allConflicts(), 12);
        x.abort();
        x.merge(0);
        Check.due("a merge again", x.allConflicts(), 16);
        Check.due("as orders", Scenes.run(x, "a;m0;a;p1;a;r1;"), 6);
        Check.due("allConflicts", x.allConflicts(), 28);
    }

    private static void allConflictsOfWhatIsRefused() {
        Check.part("promise 56: what is refused, or would be, does not count");
        BranchedSource merge = Scenes.apart(new BranchedSource(), 60, true);
        Check.dueStateFault("merge", () -> merge.merge(0));
        Check.dueStateFault("pick", () -> merge.pick(5));
        Check.dueStateFault("revert", () -> merge.revert(5));
        Check.dueStateFault("replay", () -> merge.replay(0));
        merge.wouldConflict(0);
        merge.edit(0, 0, 91);
        merge.putAside();
        merge.edit(0, 0, 92);
        Check.dueStateFault("takeBack", merge::takeBack);
        Check.due("allConflicts", merge.allConflicts(), 0);
    }

    private static void allConflictsBelongToTheState() {
        Check.part("promise 56, terms: the state is recorded: everything except the pad, the snapshot, and the records");
        BranchedSource x = Scenes.openMerge();
        x.keep();
        x.undo();
        Check.due("behind undo", x.allConflicts(), 0);
        x.goBack();
        Check.due("behind goBack", x.allConflicts(), 4);
        x.undo();
        Check.due("behind undo", x.allConflicts(), 0);
    }
}
