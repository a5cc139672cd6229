/** The edges of promises 6 to 10: a test for each sentence. */
public final class WorkEdgesTest {
    public static void main(String[] args) {
        editAtLeastAndGreatest();
        editOutOfRange();
        editCountsWhatIsChanged();
        editEndsConflict();
        commitInConflict();
        commitOfCleanTree();
        commitOfCleanTreeInMerge();
        commitOfCleanTreeInPick();
        commitUpToSixty();
        commitBeyondSixty();
        commitIsTheOnlyOneThatMoves();
        commitEndsWhatIsOpen();
        resetAtLeastAndGreatest();
        resetOutOfRange();
        resetEndsWhatIsOpen();
        resetWithoutAnythingToDo();
        putAsideOfCleanTree();
        putAsideWhileOpen();
        putAsideUpToThree();
        putAsideBeyondThree();
        takeBackOfNothing();
        takeBackWhileOpen();
        takeBackInConflict();
        takeBackOfWhatIsThere();
        takeBackTheLatest();
        takeBackByTheHeadOfThatTime();
        Check.end();
    }

    private static final Refused.Scene[] OPEN = {
        () -> Scenes.openMerge(Scenes.marked()),
        () -> Scenes.openMergeClean(Scenes.marked()),
        () -> Scenes.openMergeResolved(Scenes.marked()),
        () -> Scenes.openPick(Scenes.marked()),
        () -> Scenes.openRevert(Scenes.marked()),
        () -> Scenes.openHighMerge(Scenes.marked()),
    };

    private static void editAtLeastAndGreatest() {
        Check.part("promise 6: file is 0 to 3, line 0 to 5, value 0 to 99");
        for (int file : new int[] {0, 3}) {
            for (int line : new int[] {0, 5}) {
                for (int value : new int[] {1, 99}) {
                    BranchedSource x = new BranchedSource();
                    Check.due("edit", x.edit(file, line, value), 1);
                    for (int place = 0; place < 24; place++) {
                        int want = place == file * 6 + line ? value : 0;
                        Check.due("line of place " + place, x.lineOf(place / 6, place % 6), want);
                    }
                    Check.due("edit to 0", x.edit(file, line, 0), 0);
                    Check.due("lineOf", x.lineOf(file, line), 0);
                }
            }
        }
    }

    private static void editOutOfRange() {
        Check.part("promise 6: IllegalArgumentException if an argument is out of range");
        Refused.Scene merging = () -> Scenes.openMerge(Scenes.marked());
        for (Refused.Scene scene : new Refused.Scene[] {Scenes::marked, merging}) {
            for (int file : Refused.outside(0, 3)) {
                Refused.byArgument("edit of file " + file, scene, x -> x.edit(file, 0, 1));
            }
            for (int line : Refused.outside(0, 5)) {
                Refused.byArgument("edit of line " + line, scene, x -> x.edit(1, line, 1));
            }
            for (int value : Refused.outside(0, 99)) {
                Refused.byArgument("edit to " + value, scene, x -> x.edit(1, 0, value));
            }
        }
        Refused.byArgument("edit of what would be a place", merging, x -> x.edit(0, 6, 1));
        Refused.byArgument("edit of what would be a place", merging, x -> x.edit(2, -6, 1));
        Refused.byArgument("edit of what would be a place", merging, x -> x.edit(-1, 12, 1));
        Refused.byArgument("edit of what would be a place", merging, x -> x.edit(4, -1, 1));
    }

    private static void editCountsWhatIsChanged() {
        Check.part("promise 6: returns how many lines are changed then");
        BranchedSource x = new BranchedSource();
        for (int place = 0; place < 24; place++) {
            Check.due("edit", x.edit(place / 6, place % 6, 99), place + 1);
        }
        Check.due("edit of a changed line", x.edit(0, 0, 98), 24);
        for (int place = 0; place < 24; place++) {
            Check.due("edit back", x.edit(place / 6, place % 6, 0), 23 - place);
        }
        Check.due("edit to what is there", x.edit(1, 1, 0), 0);
        Check.due("it is a change yet", x.undo(), 3);
        Scenes.commitLine(x, 1, 1, 5);
        Check.due("a 0 can be a change", x.edit(1, 1, 0), 1);
    }

    private static void editEndsConflict() {
        Check.part("terms: a line is no longer in conflict when it is edited");
        for (int value : new int[] {3, 2, 0, 50}) {
            BranchedSource x = Scenes.openMerge();
            x.edit(1, 1, value);
            Check.due("isConflict", x.isConflict(1, 1), false);
            Check.due("conflicts", x.conflicts(), 3);
            Check.due("lineOf", x.lineOf(1, 1), value);
            Check.dueStateFault("theirs", () -> x.theirs(1, 1));
            Check.due("the one beside it stays", x.isConflict(1, 0), true);
        }
        BranchedSource x = Scenes.openMerge();
        x.edit(1, 2, 9);
        Check.due("another line ends none", x.conflicts(), 4);
    }

    private static void commitInConflict() {
        Check.part("promise 7: IllegalStateException if a line is in conflict");
        for (Refused.Scene scene : OPEN) {
            if (scene.made().conflicts() > 0) {
                Refused.byState("commit", scene, x -> x.commit());
                Refused.byState("commit of a changed tree", () -> edited(scene.made(), 3, 5, 8), x -> x.commit());
            }
        }
        BranchedSource x = Scenes.openMerge();
        x.resolve(1, 0, true);
        x.edit(1, 1, 2);
        x.resolve(2, 0, false);
        Check.due("conflicts", x.conflicts(), 1);
        Check.dueStateFault("commit with one line in conflict", x::commit);
        x.resolve(1, 3, false);
        Check.due("commit with none", x.commit(), 3);
    }

    private static BranchedSource edited(BranchedSource x, int file, int line, int value) {
        x.edit(file, line, value);
        return x;
    }

    private static void commitOfCleanTree() {
        Check.part("promise 7: IllegalStateException if the working tree is clean and no merge is open");
        Refused.byState("commit", Scenes::marked, x -> x.commit());
        Refused.byState("commit", () -> Scenes.fork(Scenes.marked()), x -> x.commit());
        Refused.byState("commit of what is edited back", () -> edited(edited(Scenes.fork(Scenes.marked()), 0, 0, 1), 0, 0, 5),
            x -> x.commit());
        BranchedSource x = new BranchedSource();
        x.edit(3, 5, 1);
        Check.due("one line is enough", x.commit(), 1);
        Check.dueStateFault("commit again", x::commit);
        BranchedSource aborted = Scenes.openMerge();
        aborted.abort();
        Check.dueStateFault("commit behind abort", aborted::commit);
    }

    private static void commitOfCleanTreeInMerge() {
        Check.part("promise 7: a merge that is open is committed with a clean tree too");
        BranchedSource x = Scenes.openMergeResolved(new BranchedSource());
        Check.due("changed", x.changed(), 0);
        Check.due("commit", x.commit(), 3);
        Check.due("firstParent", x.firstParent(3), 2);
        Check.due("secondParent", x.secondParent(3), 1);
        Check.due("differences", x.differences(3, 2), 0);
        Check.dueStateFault("commit again", x::commit);
        BranchedSource high = resolved(Scenes.openHighMerge(new BranchedSource()), false);
        Check.due("changed", high.changed(), 0);
        Check.due("commit", high.commit(), 6);
        Check.due("firstParent", high.firstParent(6), 5);
        Check.due("secondParent", high.secondParent(6), 4);
    }

    private static void commitOfCleanTreeInPick() {
        Check.part("promise 7: a pick or a revert that is open is not committed with a clean tree");
        Refused.byState("commit of a pick", () -> resolved(Scenes.openPick(Scenes.marked()), false), x -> x.commit());
        Refused.byState("commit of a revert", () -> resolved(Scenes.openRevert(Scenes.marked()), false), x -> x.commit());
        BranchedSource pick = resolved(Scenes.openPick(), true);
        Check.due("commit of a pick by theirs", pick.commit(), 4);
        Check.due("firstParent", pick.firstParent(4), 1);
        Check.due("secondParent", pick.secondParent(4), -1);
        BranchedSource revert = resolved(Scenes.openRevert(new BranchedSource()), true);
        Check.due("commit of a revert by theirs", revert.commit(), 4);
        Check.due("firstParent", revert.firstParent(4), 3);
        Check.due("secondParent", revert.secondParent(4), -1);
    }

    private static BranchedSource resolved(BranchedSource x, boolean isTheirs) {
        x.resolve(0, 0, isTheirs);
        return x;
    }

    private static void commitUpToSixty() {
        Check.part("terms: commits are numbered in the order in which they are made; there are at most 60");
        BranchedSource x = new BranchedSource();
        for (int number = 1; number < 60; number++) {
            x.edit(0, 0, number);
            Check.due("commit", x.commit(), number);
            Check.due("commits", x.commits(), number + 1);
            Check.due("firstParent", x.firstParent(number), number - 1);
        }
        for (int number = 0; number < 60; number++) {
            Check.due("a tree never changes", x.lineAt(number, 0, 0), number);
        }
    }

    private static void commitBeyondSixty() {
        Check.part("promise 7: IllegalStateException if there are 60 commits");
        Refused.byState("commit", () -> edited(Scenes.full(Scenes.marked()), 3, 5, 1), x -> x.commit());
        Refused.byState("commit on another branch", () -> edited(Scenes.apart(Scenes.marked(), 60, false), 3, 5, 1), x -> x.commit());
        BranchedSource x = Scenes.full();
        x.reset(0);
        x.edit(1, 1, 1);
        Check.dueStateFault("lost commits count", x::commit);
        x.undo();
        x.undo();
        x.undo();
        Check.due("a commit that is undone leaves room", x.commits(), 59);
        Check.due("commit", x.commit(), 59);
    }

    private static void commitIsTheOnlyOneThatMoves() {
        Check.part("promise 7: the current branch stands at it, the others stay");
        BranchedSource x = Scenes.sixBranches(Scenes.fork());
        x.edit(0, 0, 9);
        Check.due("commit", x.commit(), 4);
        int[] want = {2, 4, 3, 3, 3, 3};
        for (int branch = 0; branch < 6; branch++) {
            Check.due("standsAt(" + branch + ")", x.standsAt(branch), want[branch]);
        }
    }

    private static void commitEndsWhatIsOpen() {
        Check.part("promise 7: nothing is open then");
        for (Refused.Scene scene : OPEN) {
            BranchedSource x = scene.made();
            for (int place = 0; place < 24; place++) {
                x.edit(place / 6, place % 6, 60);
            }
            int second = !x.isMerging() ? -1 : x.current() == 2 ? 4 : 1;
            int made = x.commit();
            Check.due("secondParent", x.secondParent(made), second);
            Check.due("isMerging", x.isMerging(), false);
            Check.due("isPicking", x.isPicking(), false);
            Check.due("changed", x.changed(), 0);
            Check.dueStateFault("abort", x::abort);
            Check.due("the next one", Scenes.commitLine(x, 0, 0, 61), made + 1);
            Check.due("has one parent", x.secondParent(made + 1), -1);
        }
    }

    private static void resetAtLeastAndGreatest() {
        Check.part("promise 8: the commit is any that there is");
        BranchedSource x = Scenes.fork();
        Check.due("reset(0)", x.reset(0), 3);
        Check.due("head", x.head(), 0);
        Check.due("reset to the last", x.reset(3), 0);
        Check.due("head", x.head(), 3);
        Check.due("reset of a new object", new BranchedSource().reset(0), 0);
        BranchedSource full = Scenes.full();
        Check.due("reset(0)", full.reset(0), 59);
        Check.due("reset(59)", full.reset(59), 0);
        Check.due("lineOf", full.lineOf(0, 0), 59);
    }

    private static void resetOutOfRange() {
        Check.part("promise 8: IllegalArgumentException if there is no such commit");
        for (int commit : Refused.outside(0, 0)) {
            Refused.byArgument("reset(" + commit + ")", () -> edited(Scenes.marked(), 0, 0, 1), x -> x.reset(commit));
        }
        for (int commit : new int[] {3, 59, 60, -1}) {
            Refused.byArgument("reset(" + commit + ")", () -> Scenes.openMerge(Scenes.marked()), x -> x.reset(commit));
        }
        for (int commit : Refused.outside(0, 59)) {
            Refused.byArgument("reset(" + commit + ")", () -> Scenes.full(Scenes.marked()), x -> x.reset(commit));
        }
        BranchedSource x = Scenes.fork();
        x.undo();
        Check.dueArgumentFault("reset to a commit that is undone", () -> x.reset(3));
        Check.due("reset to the one below", x.reset(2), 1);
    }

    private static void resetEndsWhatIsOpen() {
        Check.part("promise 8: the working tree is clean then, and nothing is open");
        for (Refused.Scene scene : OPEN) {
            for (int commit = 0; commit < 3; commit++) {
                BranchedSource x = scene.made();
                int before = x.head();
                Check.due("reset", x.reset(commit), before);
                Check.due("head", x.head(), commit);
                Check.due("changed", x.changed(), 0);
                Check.due("conflicts", x.conflicts(), 0);
                Check.due("isMerging", x.isMerging(), false);
                Check.due("isPicking", x.isPicking(), false);
                for (int place = 0; place < 24; place++) {
                    Check.due("lineOf", x.lineOf(place / 6, place % 6), x.lineAt(commit, place / 6, place % 6));
                    Check.due("isConflict", x.isConflict(place / 6, place % 6), false);
                }
                int made = Scenes.commitLine(x, 3, 5, 60);
                Check.due("a commit behind it has one parent", x.secondParent(made), -1);
            }
        }
    }

    private static void resetWithoutAnythingToDo() {
        Check.part("promise 8: reset to the head");
        BranchedSource x = Scenes.fork();
        Check.due("reset", x.reset(3), 3);
        Check.due("it is a change yet", x.undo(), 3);
        x.edit(3, 5, 1);
        Check.due("reset", x.reset(3), 3);
        Check.due("changed", x.changed(), 0);
        BranchedSource aside = Scenes.threeAside(Scenes.fork());
        aside.reset(0);
        Check.due("what is aside stays", aside.aside(), 3);
        Check.due("the other branch stays", aside.standsAt(0), 2);
        Check.due("the current one too", aside.current(), 1);
    }

    private static void putAsideOfCleanTree() {
        Check.part("promise 9: IllegalStateException if the working tree is clean");
        Refused.byState("putAside", Scenes::marked, x -> x.putAside());
        Refused.byState("putAside", () -> Scenes.fork(Scenes.marked()), x -> x.putAside());
        Refused.byState("putAside with one aside", () -> {
            BranchedSource x = edited(Scenes.fork(Scenes.marked()), 0, 0, 1);
            x.putAside();
            return x;
        }, x -> x.putAside());
        BranchedSource x = edited(Scenes.fork(), 0, 0, 0);
        Check.due("a line that is 0 is changed too", x.putAside(), 1);
        Check.due("lineOf", x.lineOf(0, 0), 5);
    }

    private static void putAsideWhileOpen() {
        Check.part("promise 9: IllegalStateException if something is open");
        for (Refused.Scene scene : OPEN) {
            Refused.byState("putAside", () -> edited(scene.made(), 3, 5, 1), x -> x.putAside());
        }
        BranchedSource x = edited(Scenes.openMerge(), 3, 5, 1);
        x.abort();
        x.edit(3, 5, 1);
        Check.due("putAside behind abort", x.putAside(), 1);
    }

    private static void putAsideUpToThree() {
        Check.part("promise 9: returns how many are aside then");
        BranchedSource x = Scenes.fork();
        for (int count = 1; count <= 3; count++) {
            x.edit(0, 0, 10 * count);
            x.edit(3, 5, count);
            Check.due("putAside", x.putAside(), count);
            Check.due("aside", x.aside(), count);
            Check.due("changed", x.changed(), 0);
            Check.due("lineOf", x.lineOf(0, 0), 5);
            Check.due("head", x.head(), 3);
        }
    }

    private static void putAsideBeyondThree() {
        Check.part("promise 9: IllegalStateException if 3 are aside");
        Refused.byState("putAside", () -> edited(Scenes.threeAside(Scenes.marked()), 0, 0, 9), x -> x.putAside());
        BranchedSource x = Scenes.threeAside(new BranchedSource());
        x.takeBack();
        Check.due("putAside behind takeBack", x.putAside(), 3);
    }

    private static void takeBackOfNothing() {
        Check.part("promise 10: IllegalStateException if nothing is aside");
        Refused.byState("takeBack", Scenes::marked, x -> x.takeBack());
        Refused.byState("takeBack", () -> edited(Scenes.fork(Scenes.marked()), 0, 0, 1), x -> x.takeBack());
        Refused.byState("takeBack of what is taken back", () -> {
            BranchedSource x = Scenes.threeAside(Scenes.marked());
            x.takeBack();
            x.takeBack();
            x.takeBack();
            return x;
        }, x -> x.takeBack());
    }

    private static void takeBackWhileOpen() {
        Check.part("promise 10: IllegalStateException if something is open");
        Refused.Scene[] scenes = {
            () -> Scenes.openMerge(Scenes.threeAside(Scenes.marked())),
            () -> Scenes.openMergeResolved(Scenes.threeAside(Scenes.marked())),
            () -> Scenes.openPick(Scenes.threeAside(Scenes.marked())),
            () -> resolved(Scenes.openPick(Scenes.threeAside(Scenes.marked())), false),
            () -> Scenes.openRevert(Scenes.threeAside(Scenes.marked())),
        };
        for (Refused.Scene scene : scenes) {
            Refused.byState("takeBack", scene, x -> x.takeBack());
            BranchedSource x = scene.made();
            x.abort();
            Check.due("takeBack behind abort", x.takeBack(), 1);
        }
    }

    /** One line could become another one, but the conflict in the other line stands against both. */
    private static BranchedSource inTheWay(BranchedSource x) {
        Scenes.commitLine(x, 0, 0, 1);
        x.edit(0, 0, 2);
        x.edit(3, 5, 2);
        x.putAside();
        return x;
    }

    private static void takeBackInConflict() {
        Check.part("promise 10: IllegalStateException if a line would be in conflict");
        Refused.byState("takeBack on an edited line", () -> edited(inTheWay(Scenes.marked()), 0, 0, 3), x -> x.takeBack());
        Refused.byState("takeBack on a committed line", () -> {
            BranchedSource x = inTheWay(Scenes.marked());
            Scenes.commitLine(x, 0, 0, 3);
            return x;
        }, x -> x.takeBack());
        Refused.byState("takeBack at another commit", () -> {
            BranchedSource x = inTheWay(Scenes.marked());
            x.reset(0);
            return x;
        }, x -> x.takeBack());
        Refused.byState("takeBack of the latest of two", () -> {
            BranchedSource x = edited(inTheWay(Scenes.marked()), 1, 1, 1);
            x.putAside();
            return edited(x, 1, 1, 2);
        }, x -> x.takeBack());
        BranchedSource x = edited(inTheWay(new BranchedSource()), 0, 0, 3);
        Check.dueStateFault("takeBack", x::takeBack);
        x.edit(0, 0, 1);
        Check.due("takeBack when nothing is in the way", x.takeBack(), 2);
        Check.due("no conflict was told", x.allConflicts(), 0);
    }

    private static void takeBackOfWhatIsThere() {
        Check.part("promise 10: returns how many lines become others, 0 if all are so already");
        BranchedSource x = edited(edited(inTheWay(new BranchedSource()), 0, 0, 2), 3, 5, 2);
        Check.due("takeBack", x.takeBack(), 0);
        Check.due("aside", x.aside(), 0);
        Check.due("changed", x.changed(), 2);
        BranchedSource y = edited(inTheWay(new BranchedSource()), 0, 0, 2);
        Check.due("takeBack of one of two", y.takeBack(), 1);
        Check.due("lineOf", y.lineOf(3, 5), 2);
        BranchedSource all = new BranchedSource();
        for (int place = 0; place < 24; place++) {
            all.edit(place / 6, place % 6, place + 1);
        }
        all.putAside();
        Check.due("takeBack of all lines", all.takeBack(), 24);
        Check.due("lineOf", all.lineOf(3, 5), 24);
    }

    private static void takeBackTheLatest() {
        Check.part("promises 9, 10: behind others that are aside; what was put aside the latest");
        BranchedSource x = Scenes.threeAside(new BranchedSource());
        for (int line = 3; line >= 1; line--) {
            Check.due("takeBack", x.takeBack(), 1);
            Check.due("lineOf", x.lineOf(2, line), line);
            Check.due("aside", x.aside(), line - 1);
            Check.due("changed", x.changed(), 4 - line);
        }
        Check.dueStateFault("takeBack", x::takeBack);
    }

    private static void takeBackByTheHeadOfThatTime() {
        Check.part("promise 10: the change from the tree of the head at that time to the working tree at that time");
        BranchedSource x = new BranchedSource();
        Scenes.commitLine(x, 0, 0, 1);
        x.edit(0, 1, 2);
        x.putAside();
        Scenes.commitLine(x, 0, 0, 3);
        Scenes.commitLine(x, 0, 2, 4);
        Check.due("takeBack", x.takeBack(), 1);
        Check.due("a line that was not changed then", x.lineOf(0, 0), 3);
        Check.due("a line that was changed then", x.lineOf(0, 1), 2);
        Check.due("a line of a later commit", x.lineOf(0, 2), 4);
        BranchedSource y = new BranchedSource();
        Scenes.commitLine(y, 0, 0, 1);
        y.newBranch();
        y.edit(0, 0, 0);
        y.putAside();
        y.switchTo(1);
        Scenes.commitLine(y, 1, 1, 1);
        Check.due("takeBack on another branch", y.takeBack(), 1);
        Check.due("a line that becomes 0", y.lineOf(0, 0), 0);
        Check.due("lineOf", y.lineOf(1, 1), 1);
        eachAsideHasItsHead();
    }

    /** Three are aside, each made at a commit of its own, in which the line 0 of file 0 was another one. */
    private static void eachAsideHasItsHead() {
        BranchedSource x = new BranchedSource();
        for (int number = 1; number <= 3; number++) {
            Scenes.commitLine(x, 0, 0, number);
            x.edit(0, 0, 10 * number);
            x.edit(1, number, number);
            x.putAside();
        }
        for (int number = 3; number >= 1; number--) {
            x.reset(number);
            Check.due("takeBack at the commit of its time", x.takeBack(), 2);
            Check.due("lineOf", x.lineOf(0, 0), 10 * number);
            Check.due("lineOf", x.lineOf(1, number), number);
            Check.due("changed", x.changed(), 2);
        }
        Check.due("aside", x.aside(), 0);
    }
}
