/** Promises 57 to 59, and what the terms say of changes and exceptions. */
public final class UndoTest {
    public static void main(String[] args) {
        promise57();
        promise58();
        promise58HoldsAll();
        promise59();
        promise59EveryChange();
        promise59NotRecorded();
        promise59NumbersAgain();
        promise59BringsAsideBack();
        Check.end();
    }

    private static void promise57() {
        Check.part("promise 57");
        BranchedSource x = Scenes.fork();
        Check.due("keep", x.keep(), 4);
        Scenes.commitLine(x, 0, 0, 1);
        Check.due("keep in place of the one before", x.keep(), 5);
        x.reset(0);
        Check.due("goBack", x.goBack(), 5);
        Check.due("head", x.head(), 4);
        BranchedSource y = new BranchedSource();
        Check.due("keep of a new object", y.keep(), 1);
        Check.dueStateFault("keep is no change", y::undo);
    }

    private static void promise58() {
        Check.part("promise 58");
        BranchedSource x = new BranchedSource();
        Check.dueStateFault("goBack without a snapshot", x::goBack);
        Scenes.commitLine(x, 0, 0, 1);
        x.keep();
        Scenes.typeAll(x, "b;");
        Scenes.commitLine(x, 0, 0, 2);
        Check.due("goBack", x.goBack(), 2);
        Check.due("lineOf", x.lineOf(0, 0), 1);
        Check.due("the pad stays", x.clearPad(), 2);
        Check.due("goBack is a change", x.undo(), 3);
        Check.due("commits", x.commits(), 3);
        Check.due("lineOf", x.lineOf(0, 0), 2);
        Check.due("the snapshot stays", x.goBack(), 2);
        Check.due("goBack again", x.goBack(), 2);
        x.undo();
        x.undo();
        Check.due("commits", x.commits(), 3);
        Check.due("the records stay", x.undo(), 1);
        Check.due("commits", x.commits(), 2);
        Check.due("changed", x.changed(), 1);
    }

    private static void promise58HoldsAll() {
        Check.part("promise 58");
        BranchedSource x = new BranchedSource();
        x.edit(3, 0, 1);
        x.putAside();
        x.newBranch();
        Scenes.commitLine(x, 0, 0, 1);
        x.switchTo(1);
        Scenes.commitLine(x, 0, 0, 2);
        x.merge(0);
        x.keep();
        x.abort();
        x.takeBack();
        x.commit();
        x.switchTo(0);
        x.dropBranch(1);
        x.pick(2);
        Check.due("goBack", x.goBack(), 3);
        Check.due("current", x.current(), 1);
        Check.due("standsAt(1)", x.standsAt(1), 2);
        Check.due("aside", x.aside(), 1);
        Check.due("isMerging", x.isMerging(), true);
        Check.due("isPicking", x.isPicking(), false);
        Check.due("theirs", x.theirs(0, 0), 1);
        Check.due("allConflicts", x.allConflicts(), 1);
        x.resolve(0, 0, true);
        Check.due("commit", x.commit(), 3);
        Check.due("secondParent", x.secondParent(3), 1);
        Check.due("takeBack", x.takeBack(), 1);
        Check.due("lineOf(3, 0)", x.lineOf(3, 0), 1);
    }

    private static void promise59() {
        Check.part("promise 59");
        BranchedSource x = new BranchedSource();
        Check.dueStateFault("undo of nothing", x::undo);
        for (int value = 1; value <= 6; value++) {
            x.edit(0, 0, value);
        }
        for (int left = 3; left >= 0; left--) {
            Check.due("undo", x.undo(), left);
            Check.due("lineOf", x.lineOf(0, 0), left + 2);
        }
        Check.dueStateFault("a fifth undo", x::undo);
        Check.due("lineOf", x.lineOf(0, 0), 2);
        x.edit(0, 0, 50);
        x.edit(0, 0, 51);
        Scenes.typeAll(x, "zz");
        x.keep();
        Check.due("undo", x.undo(), 1);
        Check.due("the pad stays", x.clearPad(), 2);
        x.goBack();
        Check.due("the snapshot stays", x.lineOf(0, 0), 51);
        Check.due("undo of goBack", x.undo(), 1);
        Check.due("lineOf", x.lineOf(0, 0), 50);
        Check.due("undo", x.undo(), 0);
        Check.due("lineOf", x.lineOf(0, 0), 2);
    }

    /** Each change is recorded once: how many records are left behind an undo tells it. */
    private static void promise59EveryChange() {
        Check.part("promise 59");
        dueOneChange("edit", Scenes.fork(), x -> x.edit(0, 0, 6));
        dueOneChange("edit of the same", Scenes.fork(), x -> x.edit(0, 0, 5));
        dueOneChange("newBranch", Scenes.fork(), BranchedSource::newBranch);
        dueOneChange("dropBranch", Scenes.fork(), x -> x.dropBranch(0));
        dueOneChange("switchTo", Scenes.fork(), x -> x.switchTo(0));
        dueOneChange("merge", Scenes.fork(), x -> x.merge(0));
        dueOneChange("pick", Scenes.fork(), x -> x.pick(2));
        dueOneChange("revert", Scenes.fork(), x -> x.revert(1));
        dueOneChange("reset", Scenes.fork(), x -> x.reset(2));
        dueOneChange("reset to the head", Scenes.fork(), x -> x.reset(3));
        dueOneChange("replay", Scenes.fork(), x -> x.replay(0));
        dueOneChange("resolve", Scenes.openMerge(), x -> x.resolve(1, 0, false));
        dueOneChange("abort", Scenes.openMerge(), BranchedSource::abort);
        dueOneChange("abort of a pick", Scenes.openPick(), BranchedSource::abort);
        BranchedSource edited = Scenes.fork();
        edited.edit(0, 0, 6);
        dueOneChange("commit", edited, BranchedSource::commit);
        dueOneChange("putAside", edited, BranchedSource::putAside);
        edited.putAside();
        dueOneChange("takeBack", edited, BranchedSource::takeBack);
        BranchedSource ordered = Scenes.fork();
        Scenes.typeAll(ordered, "b;b;0.0=9;");
        dueOneChange("runOrders", ordered, BranchedSource::runOrders);
        ordered.clearPad();
        dueOneChange("runOrders of nothing", ordered, BranchedSource::runOrders);
        dueOneChange("goBack", ordered, BranchedSource::goBack);
    }

    private interface Change {
        void of(BranchedSource x);
    }

    private static void dueOneChange(String call, BranchedSource x, Change change) {
        leaveOneRecord(x);
        String before = looks(x);
        change.of(x);
        Check.due(call + " then undo", x.undo(), 1);
        Check.due(call + " is undone wholly", looks(x).equals(before), true);
    }

    private static void leaveOneRecord(BranchedSource x) {
        x.keep();
        try {
            for (int count = 0; count < 5; count++) {
                x.undo();
            }
            Check.tell("more than 4 states are recorded");
        } catch (IllegalStateException e) {
            x.goBack();
        }
    }

    private static String looks(BranchedSource x) {
        StringBuilder text = new StringBuilder();
        for (int place = 0; place < 24; place++) {
            text.append(x.lineOf(place / 6, place % 6)).append(x.isConflict(place / 6, place % 6)).append(' ');
        }
        for (int branch = 0; branch < 6; branch++) {
            text.append(x.isBranch(branch) ? x.standsAt(branch) : -1).append(' ');
        }
        for (int commit = 0; commit < x.commits(); commit++) {
            text.append(x.firstParent(commit)).append(' ').append(x.secondParent(commit)).append(' ');
        }
        text.append(x.current()).append(' ').append(x.aside()).append(' ').append(x.allConflicts());
        text.append(x.isMerging()).append(x.isPicking());
        return text.toString();
    }

    private static void promise59NotRecorded() {
        Check.part("promise 59");
        BranchedSource x = new BranchedSource();
        x.type('c');
        x.clearPad();
        x.keep();
        x.fullness();
        x.wouldConflict(0);
        x.wouldBecome(0);
        Check.dueStateFault("no change yet", x::undo);
        Check.dueStateFault("commit", x::commit);
        Check.dueStateFault("putAside", x::putAside);
        Check.dueStateFault("takeBack", x::takeBack);
        Check.dueStateFault("abort", x::abort);
        Check.dueStateFault("pick", () -> x.pick(0));
        Check.dueStateFault("merge", () -> x.merge(0));
        Check.dueStateFault("replay", () -> x.replay(0));
        Check.dueStateFault("resolve", () -> x.resolve(0, 0, true));
        Check.dueArgumentFault("edit", () -> x.edit(0, 0, 100));
        Check.dueArgumentFault("reset", () -> x.reset(1));
        Check.dueStateFault("what throws is no change", x::undo);
        x.edit(0, 0, 1);
        Check.due("undo", x.undo(), 0);
        Check.dueStateFault("undo is no change", x::undo);
    }

    /** After an undo the numbers of commits are given again, to other commits. */
    private static void promise59NumbersAgain() {
        Check.part("promise 59");
        BranchedSource x = new BranchedSource();
        Scenes.commitLine(x, 0, 0, 1);
        x.keep();
        Scenes.commitLine(x, 0, 0, 2);
        x.undo();
        x.edit(0, 0, 3);
        Check.due("commit", x.commit(), 2);
        Check.due("lineAt", x.lineAt(2, 0, 0), 3);
        x.goBack();
        Check.dueArgumentFault("the commit is gone", () -> x.lineAt(2, 0, 0));
        Check.due("commit", Scenes.commitLine(x, 0, 0, 4), 2);
        Check.due("lineAt", x.lineAt(2, 0, 0), 4);
        x.undo();
        x.undo();
        x.undo();
        Check.due("the one before is back", x.lineAt(2, 0, 0), 3);
        BranchedSource y = Scenes.fork();
        y.merge(0);
        y.keep();
        y.undo();
        y.reset(2);
        Scenes.commitLine(y, 3, 3, 3);
        Check.due("another firstParent", y.firstParent(4), 2);
        Check.due("another secondParent", y.secondParent(4), -1);
        y.goBack();
        Check.due("the firstParent is back", y.firstParent(4), 3);
        Check.due("the secondParent is back", y.secondParent(4), 2);
        y.undo();
        Check.due("another firstParent", y.firstParent(4), 2);
        Check.due("another secondParent", y.secondParent(4), -1);
    }

    /** What is aside, and the head at that time, come back too. */
    private static void promise59BringsAsideBack() {
        Check.part("promise 59");
        BranchedSource x = new BranchedSource();
        Scenes.commitLine(x, 0, 0, 1);
        x.edit(3, 5, 7);
        x.edit(0, 0, 2);
        x.putAside();
        x.keep();
        x.takeBack();
        x.reset(0);
        x.edit(1, 1, 1);
        x.putAside();
        Check.due("goBack", x.goBack(), 2);
        Check.due("lineOf(0, 0)", x.lineOf(0, 0), 1);
        Check.due("takeBack", x.takeBack(), 2);
        Check.due("lineOf(0, 0)", x.lineOf(0, 0), 2);
        Check.due("lineOf(1, 1)", x.lineOf(1, 1), 0);
        Check.due("lineOf(3, 5)", x.lineOf(3, 5), 7);
        BranchedSource three = new BranchedSource();
        for (int line = 3; line < 6; line++) {
            three.edit(3, line, line);
            three.putAside();
        }
        three.keep();
        for (int line = 3; line < 6; line++) {
            three.takeBack();
        }
        three.reset(0);
        for (int line = 3; line < 6; line++) {
            three.edit(2, line, 9);
            three.putAside();
        }
        three.goBack();
        for (int line = 5; line >= 3; line--) {
            Check.due("takeBack", three.takeBack(), 1);
            Check.due("lineOf(3, ..)", three.lineOf(3, line), line);
        }
        Check.due("changed", three.changed(), 3);
    }
}
