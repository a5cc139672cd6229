/** The edges of promises 57 to 59, and of what the terms say of changes and exceptions: a test for each sentence. */
public final class UndoEdgesTest {
    public static void main(String[] args) {
        keepCountsCommits();
        keepInPlaceOfTheOneBefore();
        keepIsNoChange();
        keepHoldsNeitherPadNorRecords();
        goBackWithoutSnapshot();
        goBackToAll();
        openMergeComesBackWhole();
        goBackAgainAndAgain();
        goBackIsAChange();
        goBackLeavesThePad();
        undoWithoutRecord();
        undoUpToFour();
        theOldestIsForgotten();
        numbersAreGivenAgain();
        undoForgetsTheStateThatItBringsBack();
        undoLeavesPadAndSnapshot();
        undoIsNoChange();
        eachChangeIsRecordedOnce();
        whatIsNoChange();
        refusedCallsAreNotRecorded();
        refusedCallsForgetNothing();
        fiveHundredAndTwelveCalls();
        Check.end();
    }

    private static BranchedSource edits(BranchedSource x, int from, int to) {
        for (int value = from; value <= to; value++) {
            x.edit(0, 0, value);
        }
        return x;
    }

    private static void keepCountsCommits() {
        Check.part("promise 57: returns how many commits there are, from 1 to 60");
        Check.due("keep of a new object", new BranchedSource().keep(), 1);
        Check.due("keep of a fork", Scenes.fork().keep(), 4);
        Check.due("keep of 60 commits", Scenes.full().keep(), 60);
    }

    private static void keepInPlaceOfTheOneBefore() {
        Check.part("promise 57: in place of the one before");
        BranchedSource x = edits(new BranchedSource(), 1, 1);
        x.keep();
        x.edit(0, 0, 2);
        x.keep();
        x.edit(0, 0, 3);
        x.goBack();
        Check.due("lineOf", x.lineOf(0, 0), 2);
        x.goBack();
        Check.due("the one before is gone", x.lineOf(0, 0), 2);
        BranchedSource full = Scenes.full();
        full.keep();
        full.reset(3);
        BranchedSource small = Scenes.fork();
        small.keep();
        small.reset(0);
        Check.due("goBack to 60 commits", full.goBack(), 60);
        Check.due("lineAt", full.lineAt(59, 0, 0), 59);
        Check.due("goBack to four", small.goBack(), 4);
    }

    private static void keepIsNoChange() {
        Check.part("terms: keep is no change");
        BranchedSource x = new BranchedSource();
        x.keep();
        Check.dueStateFault("undo", x::undo);
        edits(x, 1, 2);
        x.keep();
        x.keep();
        Check.due("undo", x.undo(), 1);
        Check.due("lineOf", x.lineOf(0, 0), 1);
        BranchedSource four = edits(new BranchedSource(), 1, 4);
        four.keep();
        for (int left = 3; left >= 0; left--) {
            Check.due("keep forgets no record", four.undo(), left);
        }
    }

    private static void keepHoldsNeitherPadNorRecords() {
        Check.part("promise 57: a snapshot of everything except the pad, and the records");
        BranchedSource x = edits(new BranchedSource(), 1, 2);
        Scenes.typeAll(x, "b;");
        x.keep();
        x.undo();
        x.undo();
        x.type('c');
        x.goBack();
        Check.due("the pad is that of now", x.clearPad(), 3);
        Check.due("the records are those of now, and goBack", x.undo(), 0);
        Check.dueStateFault("undo", x::undo);
    }

    private static void goBackWithoutSnapshot() {
        Check.part("promise 58: IllegalStateException if there is no snapshot");
        Refused.byState("goBack", BranchedSource::new, x -> x.goBack());
        Refused.byState("goBack", Scenes::fork, x -> x.goBack());
        Refused.byState("goBack", () -> Scenes.threeAside(new BranchedSource()), x -> x.goBack());
        Refused.byState("goBack", () -> {
            BranchedSource x = Scenes.openMerge();
            Scenes.typeAll(x, "b;");
            return x;
        }, x -> x.goBack());
    }

    private static void goBackToAll() {
        Check.part("promise 58: goes back to the snapshot: everything except the pad, and the records");
        Refused.Scene[] scenes = {
            BranchedSource::new, Scenes::fork, Scenes::openMerge, Scenes::openPick, Scenes::crossed,
            () -> Scenes.openHighMerge(new BranchedSource()),
            () -> Scenes.openRevert(new BranchedSource()),
            () -> Scenes.openMergeResolved(new BranchedSource()),
            () -> Scenes.threeAside(Scenes.fork()),
            () -> Scenes.sixBranches(Scenes.fork()),
            BranchesEdgesTest::forkWithChange,
        };
        for (Refused.Scene scene : scenes) {
            for (int way = 0; way < Look.WAYS; way++) {
                if (way == 1 || way == 2) {
                    continue;
                }
                BranchedSource x = scene.made();
                BranchedSource y = scene.made();
                x.clearPad();
                y.clearPad();
                x.keep();
                turnOver(x);
                Check.due("goBack", x.goBack(), y.commits());
                Check.dueText("what is behind goBack", Look.by(way, x), Look.by(way, y));
                BranchedSource z = scene.made();
                z.clearPad();
                z.keep();
                takeAllBack(z);
                turnOver(z);
                Check.due("goBack behind undo", z.goBack(), scene.made().commits());
                Check.dueText("what is behind undo and goBack", Look.by(way, z), Look.by(way, clearedPad(scene.made())));
            }
        }
    }

    private static BranchedSource clearedPad(BranchedSource x) {
        x.clearPad();
        return x;
    }

    /** Afterwards the numbers of the latest commits are given again, to other commits. */
    private static void takeAllBack(BranchedSource x) {
        for (int count = 0; count < 4; count++) {
            try {
                x.undo();
            } catch (IllegalStateException e) {
                return;
            }
        }
    }

    /** Changes whatever a state has. */
    private static void turnOver(BranchedSource x) {
        x.reset(0);
        for (int count = x.aside(); count > 0; count--) {
            x.takeBack();
        }
        for (int place = 0; place < 24; place++) {
            x.edit(place / 6, place % 6, 80);
        }
        x.commit();
        for (int branch = 0; branch < 6; branch++) {
            if (x.isBranch(branch) && branch != x.current()) {
                x.dropBranch(branch);
            }
        }
        int left = x.current();
        int made = x.newBranch();
        for (int place = 0; place < 24; place++) {
            x.edit(place / 6, place % 6, 81);
        }
        x.commit();
        for (int line = 0; line < 3; line++) {
            x.edit(line, line, 82);
            x.edit(3, 5 - line, 82);
            x.putAside();
        }
        x.switchTo(made);
        for (int place = 0; place < 24; place++) {
            x.edit(place / 6, place % 6, 83);
        }
        x.commit();
        x.merge(left);
    }

    private static void openMergeComesBackWhole() {
        Check.part("promises 58, 59: the commit that is merged comes back too");
        BranchedSource x = Scenes.openMergeResolved(new BranchedSource());
        x.keep();
        x.commit();
        Check.due("undo of the commit", x.undo(), 3);
        Check.due("commit again", x.commit(), 3);
        Check.due("secondParent", x.secondParent(3), 1);
        x.reset(0);
        x.edit(0, 0, 9);
        x.commit();
        Check.due("goBack", x.goBack(), 3);
        Check.due("isMerging", x.isMerging(), true);
        Check.due("commit", x.commit(), 3);
        Check.due("firstParent", x.firstParent(3), 2);
        Check.due("secondParent", x.secondParent(3), 1);
        BranchedSource y = Scenes.openHighMerge(new BranchedSource());
        y.keep();
        y.abort();
        Check.due("undo of abort", y.undo(), 3);
        Check.due("isMerging", y.isMerging(), true);
        y.resolve(0, 0, true);
        Check.due("commit", y.commit(), 6);
        Check.due("secondParent", y.secondParent(6), 4);
        Check.due("goBack", y.goBack(), 6);
        y.edit(0, 0, 51);
        Check.due("commit", y.commit(), 6);
        Check.due("firstParent", y.firstParent(6), 5);
        Check.due("secondParent", y.secondParent(6), 4);
    }

    private static void goBackAgainAndAgain() {
        Check.part("promise 58: the snapshot stays");
        BranchedSource x = Scenes.fork();
        x.keep();
        for (int count = 0; count < 6; count++) {
            Scenes.commitLine(x, 1, 1, 10 + count);
            Check.due("goBack", x.goBack(), 4);
            Check.due("head", x.head(), 3);
            Check.due("lineOf", x.lineOf(1, 1), 0);
            Check.due("commits", x.commits(), 4);
        }
        Check.due("goBack with nothing between", x.goBack(), 4);
        x.undo();
        x.undo();
        Check.due("goBack behind undo", x.goBack(), 4);
        Check.due("what was changed behind goBack is not in it", x.lineOf(1, 1), 0);
    }

    private static void goBackIsAChange() {
        Check.part("terms: goBack is a change");
        BranchedSource x = edits(new BranchedSource(), 1, 1);
        x.keep();
        edits(x, 2, 2);
        x.goBack();
        Check.due("undo", x.undo(), 2);
        Check.due("lineOf", x.lineOf(0, 0), 2);
        BranchedSource four = new BranchedSource();
        four.keep();
        edits(four, 1, 4);
        four.goBack();
        for (int left = 3; left >= 0; left--) {
            Check.due("undo", four.undo(), left);
            Check.due("lineOf", four.lineOf(0, 0), left + 1);
        }
        Check.dueStateFault("the oldest is forgotten", four::undo);
    }

    private static void goBackLeavesThePad() {
        Check.part("promises 57, 58: the pad stays");
        BranchedSource x = new BranchedSource();
        x.keep();
        Scenes.typeAll(x, "3.3=7;");
        x.goBack();
        Check.due("runOrders", x.runOrders(), 1);
        Check.due("lineOf", x.lineOf(3, 3), 7);
        Check.due("clearPad", x.clearPad(), 6);
    }

    /** The records hold the trees and the parents of all commits: their numbers can be given again. */
    private static void numbersAreGivenAgain() {
        Check.part("terms: the state is recorded: everything except the pad, the snapshot, and the records");
        BranchedSource x = mergedFork();
        turnAround(x);
        x.undo();
        x.undo();
        x.undo();
        Check.due("the merge is back", x.undo(), 0);
        String before = Look.atNow(mergedFork());
        Check.dueText("what is behind undo", Look.atNow(x), before);
        int[][] parents = {{-1, -1}, {0, -1}, {1, -1}, {1, -1}, {3, 2}};
        int[][] lines = {{0, 0, 0}, {5, 0, 0}, {5, 6, 0}, {5, 0, 7}, {5, 6, 7}};
        for (int commit = 0; commit < 5; commit++) {
            Check.due("firstParent(" + commit + ")", x.firstParent(commit), parents[commit][0]);
            Check.due("secondParent(" + commit + ")", x.secondParent(commit), parents[commit][1]);
            for (int line = 0; line < 3; line++) {
                Check.due("lineAt(" + commit + ", 0, " + line + ")", x.lineAt(commit, 0, line), lines[commit][line]);
            }
        }
    }

    /** A fork that is merged; the snapshot is of the time before the commits. */
    private static BranchedSource mergedFork() {
        BranchedSource x = new BranchedSource();
        x.keep();
        Scenes.fork(x);
        x.merge(0);
        return x;
    }

    /** Four changes, by which the commits 1 and 2 become others. */
    private static void turnAround(BranchedSource x) {
        x.goBack();
        x.edit(3, 3, 33);
        x.commit();
        Check.due("lineAt(1, 0, 0)", x.lineAt(1, 0, 0), 0);
        x.revert(1);
        Check.due("firstParent(2)", x.firstParent(2), 1);
        Check.due("lineAt(2, 3, 3)", x.lineAt(2, 3, 3), 0);
    }

    private static void undoWithoutRecord() {
        Check.part("promise 59: IllegalStateException if no state is recorded");
        Refused.byState("undo", BranchedSource::new, x -> x.undo());
        Refused.byState("undo", Scenes::marked, x -> x.undo());
        Refused.Scene used = () -> {
            BranchedSource x = Scenes.openMerge(Scenes.marked());
            for (int count = 0; count < 4; count++) {
                x.undo();
            }
            return x;
        };
        Refused.byState("undo", used, x -> x.undo());
    }

    private static void undoUpToFour() {
        Check.part("terms, promise 59: at most 4 states are recorded; returns how many states are recorded then");
        for (int changes = 1; changes <= 9; changes++) {
            BranchedSource x = edits(new BranchedSource(), 1, changes);
            int recorded = Math.min(changes, 4);
            for (int back = 1; back <= recorded; back++) {
                Check.due("undo", x.undo(), recorded - back);
                Check.due("lineOf", x.lineOf(0, 0), changes - back);
            }
            Check.dueStateFault("one undo too many", x::undo);
            Check.due("lineOf", x.lineOf(0, 0), changes - recorded);
        }
    }

    private static void theOldestIsForgotten() {
        Check.part("terms: when a fifth one is recorded, the oldest one is forgotten");
        BranchedSource x = edits(new BranchedSource(), 1, 5);
        Check.due("undo", x.undo(), 3);
        Check.due("lineOf", x.lineOf(0, 0), 4);
        edits(x, 6, 7);
        int[] want = {6, 4, 3, 2};
        for (int back = 0; back < 4; back++) {
            Check.due("undo", x.undo(), 3 - back);
            Check.due("lineOf", x.lineOf(0, 0), want[back]);
        }
        Check.dueStateFault("the first one is forgotten", x::undo);
        BranchedSource many = new BranchedSource();
        for (int round = 0; round < 20; round++) {
            edits(many, 1 + round, 5 + round);
            for (int back = 0; back < round % 5 && back < 4; back++) {
                many.undo();
                Check.due("lineOf", many.lineOf(0, 0), 4 + round - back);
            }
        }
    }

    private static void undoForgetsTheStateThatItBringsBack() {
        Check.part("promise 59: brings back the latest recorded state, which is forgotten then");
        BranchedSource x = edits(new BranchedSource(), 1, 3);
        Check.due("undo", x.undo(), 2);
        Check.due("lineOf", x.lineOf(0, 0), 2);
        Check.due("undo", x.undo(), 1);
        Check.due("lineOf", x.lineOf(0, 0), 1);
        edits(x, 9, 9);
        Check.due("undo", x.undo(), 1);
        Check.due("lineOf", x.lineOf(0, 0), 1);
        Check.due("undo", x.undo(), 0);
        Check.due("lineOf", x.lineOf(0, 0), 0);
    }

    private static void undoLeavesPadAndSnapshot() {
        Check.part("promise 59: the pad and the snapshot do not change");
        BranchedSource x = edits(new BranchedSource(), 1, 1);
        Scenes.typeAll(x, "1.1=1;");
        edits(x, 2, 2);
        x.keep();
        Scenes.typeAll(x, "2.2=2;b;");
        Check.due("undo", x.undo(), 1);
        Check.due("undo", x.undo(), 0);
        Check.due("runOrders", x.runOrders(), 2);
        Check.due("lineOf", x.lineOf(2, 2), 2);
        Check.due("clearPad", x.clearPad(), 8);
        Check.due("goBack", x.goBack(), 1);
        Check.due("lineOf", x.lineOf(0, 0), 2);
        Check.due("lineOf", x.lineOf(2, 2), 0);
        BranchedSource none = edits(new BranchedSource(), 1, 1);
        none.undo();
        Check.dueStateFault("undo makes no snapshot", none::goBack);
    }

    private static void undoIsNoChange() {
        Check.part("terms: undo is no change");
        BranchedSource x = edits(new BranchedSource(), 1, 1);
        Check.due("undo", x.undo(), 0);
        Check.dueStateFault("undo of undo", x::undo);
        Check.due("lineOf", x.lineOf(0, 0), 0);
    }

    private interface Change {
        void of(BranchedSource x);
    }

    private static BranchedSource edited(BranchedSource x) {
        x.edit(0, 0, 50);
        return x;
    }

    private static void eachChangeIsRecordedOnce() {
        Check.part("terms: the changes are edit, commit, .. and goBack; before a change, the state is recorded");
        Refused.Scene fork = () -> Scenes.fork(Scenes.marked());
        Refused.Scene changed = () -> edited(Scenes.fork(Scenes.marked()));
        Refused.Scene merging = () -> Scenes.openMerge(Scenes.marked());
        dueChange("edit", fork, x -> x.edit(3, 5, 99));
        dueChange("edit of what is there", fork, x -> x.edit(0, 0, 5));
        dueChange("commit", changed, x -> x.commit());
        dueChange("commit of a merge", () -> Scenes.openMergeResolved(Scenes.marked()), x -> x.commit());
        dueChange("newBranch", fork, x -> x.newBranch());
        dueChange("dropBranch", fork, x -> x.dropBranch(0));
        dueChange("switchTo", fork, x -> x.switchTo(0));
        dueChange("merge", fork, x -> x.merge(0));
        dueChange("merge of one that is ahead", () -> behind(Scenes.marked()), x -> x.merge(0));
        dueChange("merge with conflicts", () -> aborted(Scenes.openMerge(Scenes.marked())), x -> x.merge(0));
        dueChange("pick", fork, x -> x.pick(2));
        dueChange("pick with a conflict", () -> aborted(Scenes.openPick(Scenes.marked())), x -> x.pick(3));
        dueChange("revert", fork, x -> x.revert(3));
        dueChange("revert with a conflict", () -> aborted(Scenes.openRevert(Scenes.marked())), x -> x.revert(1));
        dueChange("resolve by theirs", merging, x -> x.resolve(1, 0, true));
        dueChange("resolve by ours", merging, x -> x.resolve(2, 0, false));
        dueChange("abort", merging, x -> x.abort());
        dueChange("abort of a pick", () -> Scenes.openPick(Scenes.marked()), x -> x.abort());
        dueChange("reset", fork, x -> x.reset(0));
        dueChange("reset to the head", fork, x -> x.reset(3));
        dueChange("reset of a merge", merging, x -> x.reset(1));
        dueChange("replay", fork, x -> x.replay(0));
        dueChange("replay of nothing", () -> behind(Scenes.marked()), x -> x.replay(0));
        dueChange("putAside", changed, x -> x.putAside());
        dueChange("takeBack", () -> Scenes.threeAside(Scenes.marked()), x -> x.takeBack());
        dueChange("goBack", merging, x -> x.goBack());
        dueChange("runOrders", () -> withPad(Scenes.fork(Scenes.marked()), "b;0.0=1;c;b;s0;m1;"), x -> x.runOrders());
        dueChange("runOrders that stop", () -> withPad(Scenes.fork(Scenes.marked()), "b;s1;c;"), x -> x.runOrders());
        dueChange("runOrders of a refused one", () -> withPad(Scenes.fork(Scenes.marked()), "s1;"), x -> x.runOrders());
        dueChange("runOrders of nothing", () -> withPad(Scenes.fork(Scenes.marked()), ""), x -> x.runOrders());
    }

    private static BranchedSource behind(BranchedSource x) {
        Scenes.fork(x);
        x.reset(1);
        return x;
    }

    private static BranchedSource aborted(BranchedSource x) {
        x.abort();
        return x;
    }

    private static BranchedSource withPad(BranchedSource x, String text) {
        Scenes.typeAll(x, text);
        return x;
    }

    /** Behind the change and an undo all is as before, but that the oldest of four records is forgotten. */
    private static void dueChange(String call, Refused.Scene scene, Change change) {
        for (int way = 0; way < Look.WAYS; way++) {
            BranchedSource x = scene.made();
            Scenes.drained(x);
            BranchedSource y = Scenes.drained(scene.made());
            change.of(x);
            Check.due("undo of " + call, x.undo(), 1);
            Check.dueText("what is behind undo of " + call, Look.by(way, x), Look.by(way, y));
        }
    }

    private static void whatIsNoChange() {
        Check.part("terms: what is not named among the changes is not recorded");
        BranchedSource x = Scenes.drained(Scenes.openMerge());
        x.type('b');
        x.fault();
        x.clearPad();
        x.keep();
        Look.atNow(x);
        x.reaches(2, 1);
        x.history(2);
        x.historyAt(2, 0);
        x.distance(2, 0);
        x.depth(2);
        x.base(2, 1);
        x.baseByMarks(2, 1);
        x.bestCommon(2, 1);
        x.broughtBy(2, 1, 0);
        x.firstWith(2, 1, 0, 3);
        x.fullness();
        x.regions();
        x.longestRegion();
        x.wouldConflict(0);
        x.wouldBecome(0);
        Check.due("undo of the one record that there is", x.undo(), 0);
    }

    private static void refusedCallsAreNotRecorded() {
        Check.part("terms: the changes .. if they throw nothing");
        BranchedSource x = new BranchedSource();
        Scenes.typeAll(x, "b;x");
        Change[] refused = {
            y -> y.runOrders(), y -> y.edit(4, 0, 0), y -> y.edit(0, 6, 0), y -> y.edit(0, 0, 100), y -> y.commit(),
            y -> y.reset(1), y -> y.reset(-1), y -> y.putAside(), y -> y.takeBack(), y -> y.dropBranch(0),
            y -> y.dropBranch(1), y -> y.dropBranch(6), y -> y.switchTo(0), y -> y.switchTo(1), y -> y.switchTo(6),
            y -> y.merge(0), y -> y.merge(1), y -> y.merge(6), y -> y.pick(0), y -> y.pick(1), y -> y.revert(0),
            y -> y.revert(1), y -> y.replay(0), y -> y.replay(1), y -> y.replay(6), y -> y.resolve(0, 0, true),
            y -> y.resolve(4, 0, true), y -> y.abort(), y -> y.goBack(), y -> y.undo(), y -> y.type(31),
        };
        for (int kind = 0; kind < refused.length; kind++) {
            dueRefused(x, kind, refused[kind]);
            Check.dueStateFault("undo behind the refused call " + kind, x::undo);
        }
        Check.due("newBranch", x.newBranch(), 1);
        Check.due("undo", x.undo(), 0);
    }

    private static void dueRefused(BranchedSource x, int kind, Change call) {
        try {
            call.of(x);
            Check.tell("the call " + kind + " is not refused");
        } catch (IllegalArgumentException | IllegalStateException e) {
            return;
        }
    }

    private static void refusedCallsForgetNothing() {
        Check.part("terms: a method that throws an exception changes nothing, the records neither");
        BranchedSource x = edits(new BranchedSource(), 1, 6);
        for (int count = 0; count < 6; count++) {
            Check.dueStateFault("abort", x::abort);
            Check.dueArgumentFault("edit", () -> x.edit(0, 0, -1));
            Check.dueStateFault("takeBack", x::takeBack);
            Check.dueStateFault("switchTo", () -> x.switchTo(3));
        }
        for (int left = 3; left >= 0; left--) {
            Check.due("undo", x.undo(), left);
            Check.due("lineOf", x.lineOf(0, 0), left + 2);
        }
    }

    private static void fiveHundredAndTwelveCalls() {
        Check.part("an object is used for at most 512 calls: the last one is answered as the first one");
        BranchedSource x = new BranchedSource();
        for (int call = 1; call <= 512; call++) {
            Check.due("edit, call " + call, x.edit(call % 4, call % 6, 1 + call % 99), Math.min(call, 12));
        }
        BranchedSource y = new BranchedSource();
        for (int call = 1; call < 512; call++) {
            Check.dueArgumentFault("edit, call " + call, () -> y.edit(0, 0, 100));
        }
        Check.due("edit, call 512", y.edit(0, 0, 99), 1);
        BranchedSource z = new BranchedSource();
        for (int call = 1; call < 512; call += 2) {
            Check.due("runOrders, call " + call, z.runOrders(), 0);
            Check.due("undo, call " + (call + 1), z.undo(), 0);
        }
    }
}
