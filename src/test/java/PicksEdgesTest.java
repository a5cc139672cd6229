/** The edges of promises 15 to 17: a test for each sentence. */
public final class PicksEdgesTest {
    private static final int[] NO_COMMIT = Refused.outside(0, 3);

    public static void main(String[] args) {
        outOfRange();
        ofTheCommit0();
        withAChange();
        whileOpen();
        ofWhatIsThere();
        beyondSixty();
        upToSixty();
        aConflictAloneIsEnough();
        oneLineAloneIsEnough();
        pickedCommitHasOneParent();
        replayOutOfRange();
        replayOnNone();
        replayWithAChange();
        replayWhileOpen();
        replayOnWhatIsReached();
        replayInConflict();
        replayBeyondSixty();
        replayUpToSixty();
        replayOfNothing();
        replayLeavesOut();
        replayGoesDownToWhatTheOtherReaches();
        replayInTheOrderOfNumbers();
        replayBehindReplay();
        Check.end();
    }

    /** Pick and revert ask for the same but for the direction of the change. */
    private static int take(BranchedSource x, int commit, boolean isBackwards) {
        return isBackwards ? x.revert(commit) : x.pick(commit);
    }

    private static String name(int commit, boolean isBackwards) {
        return (isBackwards ? "revert(" : "pick(") + commit + ")";
    }

    private static final boolean[] BOTH = {false, true};

    /** Branch 0 at 3, one line in commit after commit; branch 1, the current one, at 4, with a line of its own. */
    private static BranchedSource rows(BranchedSource x) {
        x.newBranch();
        Scenes.commitLine(x, 0, 0, 1);
        Scenes.commitLine(x, 0, 1, 2);
        Scenes.commitLine(x, 0, 0, 3);
        x.switchTo(1);
        Scenes.commitLine(x, 1, 1, 4);
        return x;
    }

    private static BranchedSource edited(BranchedSource x) {
        x.edit(3, 3, 3);
        return x;
    }

    private static void outOfRange() {
        Check.part("promises 15, 16: IllegalArgumentException if there is no such commit, ahead of all other reasons");
        for (boolean isBackwards : BOTH) {
            for (int commit : NO_COMMIT) {
                String call = name(commit, isBackwards);
                Refused.byArgument(call, () -> Scenes.fork(Scenes.marked()), x -> take(x, commit, isBackwards));
                Refused.byArgument(call + " with a change", BranchesEdgesTest::forkWithChange, x -> take(x, commit, isBackwards));
                Refused.byArgument(call + " while one is open", () -> Scenes.openPick(Scenes.marked()),
                    x -> take(x, commit == 3 ? 4 : commit, isBackwards));
            }
            for (int commit : Refused.outside(0, 59)) {
                Refused.byArgument(name(commit, isBackwards) + " with 60 commits", () -> Scenes.full(Scenes.marked()),
                    x -> take(x, commit, isBackwards));
            }
            Refused.byArgument("the commit 1 of a new object", Scenes::marked, x -> take(x, 1, isBackwards));
        }
    }

    private static void ofTheCommit0() {
        Check.part("promises 15, 16: IllegalStateException if it is the commit 0");
        for (boolean isBackwards : BOTH) {
            Refused.byState(name(0, isBackwards), Scenes::marked, x -> take(x, 0, isBackwards));
            Refused.byState(name(0, isBackwards), () -> Scenes.fork(Scenes.marked()), x -> take(x, 0, isBackwards));
            Refused.byState(name(0, isBackwards) + " at the commit 0", () -> {
                BranchedSource x = Scenes.fork(Scenes.marked());
                x.reset(0);
                return x;
            }, x -> take(x, 0, isBackwards));
            Refused.byState(name(0, isBackwards) + " behind another combining", () -> {
                BranchedSource x = Scenes.fork(Scenes.marked());
                x.wouldConflict(0);
                return x;
            }, x -> take(x, 0, isBackwards));
            Refused.byState(name(0, isBackwards) + " behind a pick", () -> {
                BranchedSource x = Scenes.fork(Scenes.marked());
                x.pick(2);
                return x;
            }, x -> take(x, 0, isBackwards));
        }
    }

    private static void withAChange() {
        Check.part("promises 15, 16: IllegalStateException if the working tree is not clean");
        Refused.byState("pick", () -> edited(rows(Scenes.marked())), x -> x.pick(2));
        Refused.byState("revert", () -> edited(rows(Scenes.marked())), x -> x.revert(4));
        for (boolean isBackwards : BOTH) {
            BranchedSource x = edited(rows(new BranchedSource()));
            x.edit(3, 3, 0);
            Check.due("when it is edited back", take(x, isBackwards ? 4 : 2, isBackwards), 0);
        }
    }

    private static void whileOpen() {
        Check.part("promises 15, 16: IllegalStateException if something is open");
        for (Refused.Scene scene : BranchesEdgesTest.OPEN_CLEAN) {
            Check.due("changed", scene.made().changed(), 0);
            Refused.byState("pick", scene, x -> x.pick(x.standsAt(0)));
            Refused.byState("revert", scene, x -> x.revert(x.head()));
            BranchedSource x = scene.made();
            x.abort();
            Check.due("revert behind abort", x.revert(x.head()), 0);
        }
        Refused.byState("pick while a revert is open", () -> Scenes.openRevert(Scenes.marked()), x -> x.pick(1));
        Refused.byState("revert while a revert is open", () -> Scenes.openRevert(Scenes.marked()), x -> x.revert(3));
    }

    private static void ofWhatIsThere() {
        Check.part("promises 15, 16: IllegalStateException if no line would become another one or be in conflict");
        Refused.byState("pick of the head", () -> rows(Scenes.marked()), x -> x.pick(4));
        Refused.byState("revert of what is not there", () -> rows(Scenes.marked()), x -> x.revert(2));
        Refused.byState("pick of what was picked", () -> {
            BranchedSource x = rows(Scenes.marked());
            x.pick(2);
            return x;
        }, x -> x.pick(2));
        Refused.byState("revert of what was reverted", () -> {
            BranchedSource x = rows(Scenes.marked());
            x.revert(4);
            return x;
        }, x -> x.revert(4));
        Refused.Scene merged = () -> {
            BranchedSource x = Scenes.fork(Scenes.marked());
            Scenes.commitLine(x, 0, 1, 6);
            x.merge(0);
            return x;
        };
        Refused.byState("pick of a merge that changed nothing", merged, x -> x.pick(5));
        Refused.byState("revert of a merge that changed nothing", merged, x -> x.revert(5));
    }

    private static void beyondSixty() {
        Check.part("promises 15, 16: IllegalStateException if there are 60 commits");
        Refused.Scene full = () -> Scenes.full(Scenes.marked());
        Refused.byState("revert", full, x -> x.revert(59));
        Refused.byState("revert with a conflict", full, x -> x.revert(5));
        Refused.Scene apart = () -> Scenes.apart(Scenes.marked(), 60, false);
        Refused.byState("pick", apart, x -> x.pick(2));
        Refused.byState("pick with a conflict", apart, x -> x.pick(59));
        Refused.byState("revert on another branch", apart, x -> x.revert(1));
    }

    private static void upToSixty() {
        Check.part("promises 15, 16: with 59 commits the sixtieth is made, now or in the end");
        BranchedSource pick = Scenes.apart(new BranchedSource(), 59, false);
        Check.due("pick", pick.pick(2), 0);
        Check.due("head", pick.head(), 59);
        BranchedSource revert = Scenes.upTo(new BranchedSource(), 59);
        Check.due("revert", revert.revert(58), 0);
        Check.due("head", revert.head(), 59);
        BranchedSource open = Scenes.apart(new BranchedSource(), 59, false);
        Check.due("pick with a conflict", open.pick(58), 1);
        open.resolve(0, 0, true);
        Check.due("commit", open.commit(), 59);
        BranchedSource back = Scenes.upTo(new BranchedSource(), 59);
        Check.due("revert with a conflict", back.revert(3), 1);
        back.resolve(0, 0, true);
        Check.due("commit", back.commit(), 59);
        Check.due("lineOf", back.lineOf(0, 0), 2);
    }

    private static void aConflictAloneIsEnough() {
        Check.part("promises 15, 16: with conflicts the pick is open, though no line becomes another one");
        BranchedSource pick = rows(new BranchedSource());
        Check.due("pick", pick.pick(3), 1);
        Check.due("isPicking", pick.isPicking(), true);
        Check.due("isMerging", pick.isMerging(), false);
        Check.due("changed", pick.changed(), 0);
        Check.due("lineOf", pick.lineOf(0, 0), 0);
        Check.due("theirs", pick.theirs(0, 0), 3);
        Check.due("commits", pick.commits(), 5);
        Check.due("head", pick.head(), 4);
        BranchedSource revert = rows(new BranchedSource());
        revert.switchTo(0);
        Check.due("revert", revert.revert(1), 1);
        Check.due("isPicking", revert.isPicking(), true);
        Check.due("isMerging", revert.isMerging(), false);
        Check.due("changed", revert.changed(), 0);
        Check.due("lineOf", revert.lineOf(0, 0), 3);
        Check.due("theirs", revert.theirs(0, 0), 0);
        Check.due("head", revert.head(), 3);
    }

    private static void oneLineAloneIsEnough() {
        Check.part("promises 15, 16: without a conflict a commit is made at once, if one line becomes another one");
        BranchedSource x = new BranchedSource();
        x.newBranch();
        for (int place = 0; place < 24; place++) {
            x.edit(place / 6, place % 6, place + 1);
        }
        x.commit();
        x.switchTo(1);
        for (int place = 0; place < 23; place++) {
            x.edit(place / 6, place % 6, place + 1);
        }
        x.commit();
        Check.due("pick", x.pick(1), 0);
        Check.due("head", x.head(), 3);
        Check.due("differences", x.differences(3, 2), 1);
        Check.due("lineOf", x.lineOf(3, 5), 24);
        Check.due("revert", x.revert(3), 0);
        Check.due("differences", x.differences(4, 2), 0);
    }

    private static void pickedCommitHasOneParent() {
        Check.part("promises 15, 16: with the head as its only parent");
        for (boolean isBackwards : BOTH) {
            BranchedSource x = Scenes.fork();
            x.merge(0);
            if (!isBackwards) {
                x.reset(1);
            }
            int head = x.head();
            Check.due("of a merge", take(x, 4, isBackwards), 0);
            Check.due("head", x.head(), 5);
            Check.due("firstParent", x.firstParent(5), head);
            Check.due("secondParent", x.secondParent(5), -1);
            Check.due("the change from its first parent", x.lineOf(0, 1), isBackwards ? 0 : 6);
            Check.due("not from its second parent", x.lineOf(0, 2), isBackwards ? 7 : 0);
            Check.due("isPicking", x.isPicking(), false);
        }
    }

    private static void replayOutOfRange() {
        Check.part("promise 17: IllegalArgumentException if branch is out of range, ahead of all other reasons");
        for (int branch : BranchesEdgesTest.NO_BRANCH) {
            String call = "replay(" + branch + ")";
            Refused.byArgument(call, () -> Scenes.fork(Scenes.marked()), x -> x.replay(branch));
            Refused.byArgument(call + " with a change", BranchesEdgesTest::forkWithChange, x -> x.replay(branch));
            Refused.byArgument(call + " while one is open", BranchesEdgesTest.OPEN_CLEAN[0], x -> x.replay(branch));
            Refused.byArgument(call + " with 60 commits", () -> Scenes.full(Scenes.marked()), x -> x.replay(branch));
        }
    }

    private static void replayOnNone() {
        Check.part("promise 17: IllegalStateException if there is no such branch");
        for (int branch = 2; branch <= 5; branch++) {
            int none = branch;
            Refused.byState("replay(" + branch + ")", () -> Scenes.fork(Scenes.marked()), x -> x.replay(none));
        }
        Refused.byState("replay on one that is dropped", () -> {
            BranchedSource x = Scenes.fork(Scenes.marked());
            x.dropBranch(0);
            return x;
        }, x -> x.replay(0));
    }

    private static void replayWithAChange() {
        Check.part("promise 17: IllegalStateException if the working tree is not clean");
        Refused.byState("replay(0)", BranchesEdgesTest::forkWithChange, x -> x.replay(0));
        Refused.byState("replay on one that is ahead", () -> {
            BranchedSource x = Scenes.fork(Scenes.marked());
            x.reset(1);
            return edited(x);
        }, x -> x.replay(0));
        BranchedSource x = BranchesEdgesTest.forkWithChange();
        x.edit(3, 3, 0);
        Check.due("replay when it is edited back", x.replay(0), 1);
    }

    private static void replayWhileOpen() {
        Check.part("promise 17: IllegalStateException if something is open");
        for (Refused.Scene scene : BranchesEdgesTest.OPEN_CLEAN) {
            Refused.byState("replay(0)", scene, x -> x.replay(0));
        }
        Refused.Scene open = () -> {
            BranchedSource x = rows(Scenes.marked());
            x.pick(3);
            return x;
        };
        Refused.byState("replay while a pick is open", open, x -> x.replay(0));
        BranchedSource x = open.made();
        x.abort();
        Check.due("replay behind abort", x.replay(0), 1);
    }

    private static void replayOnWhatIsReached() {
        Check.part("promise 17: IllegalStateException if the head reaches the commit of the branch");
        Refused.byState("replay on the current one", () -> Scenes.fork(Scenes.marked()), x -> x.replay(1));
        Refused.byState("replay on a branch at the head", () -> Scenes.sixBranches(Scenes.fork(Scenes.marked())), x -> x.replay(5));
        Refused.byState("replay on a first parent", () -> {
            BranchedSource x = Scenes.fork(Scenes.marked());
            x.newBranch();
            Scenes.commitLine(x, 3, 3, 3);
            return x;
        }, x -> x.replay(2));
        Refused.byState("replay on a second parent", () -> {
            BranchedSource x = Scenes.fork(Scenes.marked());
            x.merge(0);
            return x;
        }, x -> x.replay(0));
    }

    private static void replayInConflict() {
        Check.part("promise 17: IllegalStateException if a line would be in conflict");
        Refused.byState("in the first one", () -> Scenes.apart(Scenes.marked(), 3, true), x -> x.replay(0));
        Refused.byState("in the last one", () -> {
            BranchedSource x = Scenes.apart(Scenes.marked(), 3, false);
            Scenes.commitLine(x, 1, 1, 1);
            Scenes.commitLine(x, 0, 0, 50);
            return x;
        }, x -> x.replay(0));
        Refused.byState("in one that is undone behind it", () -> {
            BranchedSource x = Scenes.apart(Scenes.marked(), 3, false);
            Scenes.commitLine(x, 0, 0, 50);
            Scenes.commitLine(x, 0, 0, 0);
            return x;
        }, x -> x.replay(0));
        Refused.byState("beside a line that becomes another one", () -> {
            BranchedSource x = Scenes.apart(Scenes.marked(), 3, false);
            x.edit(1, 1, 1);
            Scenes.commitLine(x, 0, 0, 50);
            return x;
        }, x -> x.replay(0));
    }

    /** Branch 0 at one less commits than there are, branch 1, the current one, with so many commits of its own. */
    private static BranchedSource toReplay(BranchedSource x, int own, int commits) {
        x.newBranch();
        x.switchTo(1);
        for (int line = 0; line < own; line++) {
            Scenes.commitLine(x, 2, line, 1);
        }
        x.switchTo(0);
        Scenes.upTo(x, commits);
        x.switchTo(1);
        return x;
    }

    private static void replayBeyondSixty() {
        Check.part("promise 17: IllegalStateException if there would be more than 60 commits");
        Refused.byState("one commit more than 60", () -> toReplay(Scenes.marked(), 1, 60), x -> x.replay(0));
        Refused.byState("three commits more than 58", () -> toReplay(Scenes.marked(), 3, 58), x -> x.replay(0));
        Refused.byState("two commits more than 59", () -> toReplay(Scenes.marked(), 2, 59), x -> x.replay(0));
        for (int leftOut = 0; leftOut < 3; leftOut++) {
            int at = leftOut;
            Refused.byState("two commits more than 59, and one that is left out", () -> {
                BranchedSource x = Scenes.marked();
                x.newBranch();
                Scenes.commitLine(x, 1, 1, 1);
                x.switchTo(1);
                for (int own = 0; own < 3; own++) {
                    Scenes.commitLine(x, own == at ? 1 : 2, own == at ? 1 : own, 1);
                }
                x.switchTo(0);
                Scenes.upTo(x, 59);
                x.switchTo(1);
                return x;
            }, x -> x.replay(0));
        }
    }

    private static void replayUpToSixty() {
        Check.part("promise 17: as many commits are made as make 60");
        for (int own = 1; own <= 3; own++) {
            BranchedSource x = toReplay(new BranchedSource(), own, 60 - own);
            Check.due("replay", x.replay(0), own);
            Check.due("commits", x.commits(), 60);
            Check.due("head", x.head(), 59);
            Check.due("firstParent", x.firstParent(60 - own), 59 - own);
            Check.due("lineOf", x.lineOf(2, own - 1), 1);
            Check.due("changed", x.changed(), 0);
        }
    }

    private static void replayOfNothing() {
        Check.part("promise 17: no commit is made, but the current branch stands at the commit of the other branch");
        BranchedSource ahead = Scenes.full();
        ahead.newBranch();
        ahead.switchTo(1);
        ahead.reset(0);
        Check.due("replay on one that is ahead, with 60 commits", ahead.replay(0), 0);
        Check.due("head", ahead.head(), 59);
        Check.due("lineOf", ahead.lineOf(0, 0), 59);
        Check.due("commits", ahead.commits(), 60);
        Check.due("current", ahead.current(), 1);
        BranchedSource same = new BranchedSource();
        same.newBranch();
        same.switchTo(1);
        Scenes.commitLine(same, 0, 0, 59);
        same.switchTo(0);
        Scenes.commitLine(same, 1, 1, 1);
        Scenes.upTo(same, 60);
        same.switchTo(1);
        Check.due("replay of what is left out, with 60 commits", same.replay(0), 0);
        Check.due("head", same.head(), 59);
        Check.due("changed", same.changed(), 0);
        Check.due("lost", same.lost(), 1);
    }

    private static void replayLeavesOut() {
        Check.part("promise 17: those by which no line would become another one, and none would be in conflict, are left out");
        BranchedSource x = Scenes.fork();
        Scenes.commitLine(x, 0, 1, 6);
        Scenes.commitLine(x, 3, 3, 3);
        Check.due("replay", x.replay(0), 2);
        Check.due("commits", x.commits(), 8);
        Check.due("firstParent(6)", x.firstParent(6), 2);
        Check.due("firstParent(7)", x.firstParent(7), 6);
        Check.due("the first one", x.lineAt(6, 0, 2), 7);
        Check.due("the last one", x.lineAt(7, 3, 3), 3);
        Check.due("not yet in the first one", x.lineAt(6, 3, 3), 0);
        BranchedSource first = Scenes.fork();
        first.reset(1);
        Scenes.commitLine(first, 0, 1, 6);
        Scenes.commitLine(first, 3, 3, 3);
        Check.due("replay without its first one", first.replay(0), 1);
        Check.due("firstParent", first.firstParent(first.head()), 2);
    }

    private static void replayGoesDownToWhatTheOtherReaches() {
        Check.part("promise 17: as long as the commit of the other branch does not reach them");
        BranchedSource x = Scenes.fork();
        x.newBranch();
        Scenes.commitLine(x, 3, 0, 1);
        x.switchTo(0);
        x.merge(2);
        x.switchTo(1);
        Scenes.commitLine(x, 3, 1, 2);
        Check.due("commits", x.commits(), 7);
        Check.due("replay of the two that the merge does not reach", x.replay(0), 2);
        Check.due("firstParent(7)", x.firstParent(7), 5);
        Check.due("lineAt(7, 3, 0)", x.lineAt(7, 3, 0), 1);
        Check.due("lineAt(8, 3, 1)", x.lineAt(8, 3, 1), 2);
        Check.due("lineAt(8, 0, 1)", x.lineAt(8, 0, 1), 6);
        Check.due("head", x.head(), 8);
        BranchedSource all = new BranchedSource();
        all.newBranch();
        Scenes.commitLine(all, 0, 0, 1);
        all.switchTo(1);
        Scenes.commitLine(all, 0, 1, 1);
        Check.due("down to the commit 0", all.replay(0), 1);
        Check.due("firstParent", all.firstParent(3), 1);
        BranchedSource edited = Scenes.fork();
        edited.switchTo(0);
        Scenes.commitLine(edited, 0, 0, 9);
        edited.switchTo(1);
        Check.due("what the other branch reaches and edited does not conflict", edited.replay(0), 1);
        Check.due("firstParent", edited.firstParent(5), 4);
        Check.due("lineOf(0, 0)", edited.lineOf(0, 0), 9);
        BranchedSource reverted = new BranchedSource();
        Scenes.commitLine(reverted, 0, 0, 1);
        reverted.newBranch();
        reverted.revert(1);
        reverted.switchTo(1);
        Scenes.commitLine(reverted, 1, 1, 1);
        Check.due("what the other branch reaches and reverted is not picked again", reverted.replay(0), 1);
        Check.due("commits", reverted.commits(), 5);
        Check.due("firstParent", reverted.firstParent(4), 2);
        Check.due("lineOf(0, 0)", reverted.lineOf(0, 0), 0);
        Check.due("lineOf(1, 1)", reverted.lineOf(1, 1), 1);
    }

    /** What a replay, or a refused one, has looked at is no part of the next one. */
    private static void replayBehindReplay() {
        Check.part("promise 17: each replay stands alone");
        BranchedSource x = Scenes.fork();
        x.newBranch();
        Scenes.commitLine(x, 0, 1, 3);
        Check.dueStateFault("replay in conflict", () -> x.replay(0));
        x.switchTo(2);
        Scenes.commitLine(x, 3, 3, 3);
        x.reset(1);
        Scenes.commitLine(x, 3, 4, 4);
        Check.due("replay of one", x.replay(0), 1);
        Check.due("commits", x.commits(), 8);
        Check.due("firstParent", x.firstParent(7), 2);
        Check.due("lineAt(7, 0, 2)", x.lineAt(7, 0, 2), 0);
        Check.due("lineAt(7, 3, 4)", x.lineAt(7, 3, 4), 4);
        x.undo();
        x.reset(3);
        Check.due("replay of another one", x.replay(0), 1);
        Check.due("lineAt(7, 0, 2)", x.lineAt(7, 0, 2), 7);
        Check.due("lineAt(7, 3, 4)", x.lineAt(7, 3, 4), 0);
    }

    private static void replayInTheOrderOfNumbers() {
        Check.part("promise 17: these commits are picked, in the order of their numbers");
        BranchedSource x = Scenes.fork();
        for (int value = 1; value <= 4; value++) {
            Scenes.commitLine(x, 3, 0, value);
        }
        Check.due("replay of a line that changes again and again", x.replay(0), 5);
        for (int value = 1; value <= 4; value++) {
            Check.due("lineAt", x.lineAt(8 + value, 3, 0), value);
            Check.due("firstParent", x.firstParent(8 + value), 7 + value);
            Check.due("secondParent", x.secondParent(8 + value), -1);
        }
        Check.due("head", x.head(), 12);
        Check.due("standsAt(0)", x.standsAt(0), 2);
        Check.due("allConflicts", x.allConflicts(), 0);
        Check.due("it is one change", x.undo(), 3);
        Check.due("head", x.head(), 7);
    }
}
