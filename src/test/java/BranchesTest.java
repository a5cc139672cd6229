/** Promises 11 to 17. */
public final class BranchesTest {
    public static void main(String[] args) {
        promise11();
        promise12();
        promise13();
        promise14();
        promise14Conflicts();
        promise14Refused();
        promise14Full();
        promise15();
        promise15Refused();
        promise16();
        promise17();
        promise17LeavesOut();
        promise17Refused();
        promise17Full();
        Check.end();
    }

    private static void promise11() {
        Check.part("promise 11");
        BranchedSource x = new BranchedSource();
        Scenes.commitLine(x, 0, 0, 1);
        x.edit(0, 0, 2);
        for (int number = 1; number < 6; number++) {
            Check.due("newBranch", x.newBranch(), number);
            Check.due("standsAt", x.standsAt(number), 1);
        }
        Check.due("current", x.current(), 0);
        Check.due("changed", x.changed(), 1);
        Check.dueStateFault("a seventh", x::newBranch);
        x.dropBranch(4);
        x.dropBranch(2);
        Check.due("the lowest free one", x.newBranch(), 2);
        Check.due("the next one", x.newBranch(), 4);
        BranchedSource open = Scenes.openMerge();
        Check.due("newBranch while one is open", open.newBranch(), 2);
        Check.due("standsAt", open.standsAt(2), 2);
        Check.due("isMerging", open.isMerging(), true);
        Check.due("conflicts", open.conflicts(), 4);
    }

    private static void promise12() {
        Check.part("promise 12");
        BranchedSource x = Scenes.fork();
        Check.dueStateFault("drop the current one", () -> x.dropBranch(1));
        Check.dueStateFault("drop none", () -> x.dropBranch(2));
        Check.dueArgumentFault("dropBranch(6)", () -> x.dropBranch(6));
        Check.dueArgumentFault("dropBranch(-1)", () -> x.dropBranch(-1));
        Check.due("dropBranch", x.dropBranch(0), 2);
        Check.due("isBranch", x.isBranch(0), false);
        Check.due("commits stay", x.commits(), 4);
        Check.due("lineAt", x.lineAt(2, 0, 1), 6);
        Check.dueStateFault("drop again", () -> x.dropBranch(0));
        BranchedSource open = Scenes.openMerge();
        Check.due("dropBranch while one is open", open.dropBranch(0), 1);
        Check.due("isMerging", open.isMerging(), true);
        Check.due("theirs", open.theirs(1, 0), 2);
    }

    private static void promise13() {
        Check.part("promise 13");
        BranchedSource x = Scenes.fork();
        Check.due("switchTo", x.switchTo(0), 2);
        Check.due("current", x.current(), 0);
        Check.due("head", x.head(), 2);
        Check.due("lineOf(0, 1)", x.lineOf(0, 1), 6);
        Check.due("lineOf(0, 2)", x.lineOf(0, 2), 0);
        Check.due("changed", x.changed(), 0);
        Check.dueStateFault("switch to the current one", () -> x.switchTo(0));
        Check.dueStateFault("switch to none", () -> x.switchTo(2));
        Check.dueArgumentFault("switchTo(6)", () -> x.switchTo(6));
        Check.dueArgumentFault("switchTo(-1)", () -> x.switchTo(-1));
        x.edit(3, 3, 3);
        Check.dueStateFault("switch with a change", () -> x.switchTo(1));
        Check.dueArgumentFault("switchTo(7) with a change", () -> x.switchTo(7));
        Check.due("lineOf", x.lineOf(3, 3), 3);
        BranchedSource open = Scenes.openPick();
        Check.due("changed", open.changed(), 0);
        Check.dueStateFault("switch while one is open", () -> open.switchTo(0));
        open.resolve(0, 0, false);
        Check.dueStateFault("switch while one without conflicts is open", () -> open.switchTo(0));
        Check.due("current", open.current(), 1);
    }

    private static void promise14() {
        Check.part("promise 14");
        BranchedSource x = Scenes.fork();
        Check.due("merge", x.merge(0), 0);
        Check.due("head", x.head(), 4);
        Check.due("firstParent", x.firstParent(4), 3);
        Check.due("secondParent", x.secondParent(4), 2);
        Check.due("lineOf(0, 0)", x.lineOf(0, 0), 5);
        Check.due("lineOf(0, 1)", x.lineOf(0, 1), 6);
        Check.due("lineOf(0, 2)", x.lineOf(0, 2), 7);
        Check.due("lineAt(4, 0, 1)", x.lineAt(4, 0, 1), 6);
        Check.due("changed", x.changed(), 0);
        Check.due("isMerging", x.isMerging(), false);
        Check.due("the other branch", x.standsAt(0), 2);
        x.switchTo(0);
        Check.due("merge of one that is ahead", x.merge(1), 0);
        Check.due("head", x.head(), 4);
        Check.due("commits", x.commits(), 5);
        Check.due("lineOf(0, 2)", x.lineOf(0, 2), 7);
        Check.due("changed", x.changed(), 0);
        BranchedSource y = new BranchedSource();
        y.newBranch();
        Scenes.commitLine(y, 0, 0, 5);
        y.switchTo(1);
        Scenes.commitLine(y, 0, 0, 5);
        Check.due("merge of the same", y.merge(0), 0);
        Check.due("is a commit", y.head(), 3);
        Check.due("differences", y.differences(3, 2), 0);
        Check.due("merges", y.merges(), 1);
    }

    private static void promise14Conflicts() {
        Check.part("promise 14");
        BranchedSource x = Scenes.openMerge();
        Check.due("isMerging", x.isMerging(), true);
        Check.due("isPicking", x.isPicking(), false);
        Check.due("conflicts", x.conflicts(), 4);
        Check.due("head stays", x.head(), 2);
        Check.due("commits", x.commits(), 3);
        Check.due("a line in conflict stays", x.lineOf(1, 0), 3);
        Check.due("theirs", x.theirs(1, 0), 2);
        Check.due("another line becomes theirs", x.lineOf(3, 3), 4);
        Check.due("changed", x.changed(), 1);
        x.abort();
        Check.due("merge again", x.merge(0), 4);
        BranchedSource crossed = Scenes.crossed();
        Check.due("base of the crossed ones", crossed.base(3, 4), 2);
        Scenes.commitLine(crossed, 0, 0, 9);
        crossed.switchTo(0);
        Check.due("line of commit 1", crossed.lineOf(0, 0), 1);
        Check.due("combined by the base 2", crossed.merge(1), 1);
        Check.due("theirs", crossed.theirs(0, 0), 9);
    }

    private static void promise14Refused() {
        Check.part("promise 14");
        BranchedSource x = Scenes.fork();
        Check.dueArgumentFault("merge(6)", () -> x.merge(6));
        Check.dueArgumentFault("merge(-1)", () -> x.merge(-1));
        Check.dueStateFault("merge of none", () -> x.merge(2));
        Check.dueStateFault("merge of the current one", () -> x.merge(1));
        x.newBranch();
        Check.dueStateFault("merge of one at the head", () -> x.merge(2));
        x.edit(3, 3, 3);
        Check.dueStateFault("merge with a change", () -> x.merge(0));
        Check.dueArgumentFault("merge(6) with a change", () -> x.merge(6));
        x.reset(3);
        x.merge(0);
        Check.dueStateFault("merge of what is merged", () -> x.merge(0));
        BranchedSource open = Scenes.openMerge();
        open.edit(3, 3, 0);
        Check.due("changed", open.changed(), 0);
        Check.dueStateFault("merge while one is open", () -> open.merge(0));
        Check.due("head", open.head(), 2);
    }

    private static void promise14Full() {
        Check.part("promise 14");
        BranchedSource x = Scenes.full();
        x.newBranch();
        x.reset(57);
        Check.due("merge of one that is ahead, with 60 commits", x.merge(1), 0);
        Check.due("head", x.head(), 59);
        BranchedSource y = new BranchedSource();
        y.newBranch();
        for (int k = 1; k < 59; k++) {
            Scenes.commitLine(y, 0, 0, k);
        }
        y.switchTo(1);
        Scenes.commitLine(y, 0, 0, 99);
        Check.due("commits", y.commits(), 60);
        Check.dueStateFault("merge with a conflict, with 60 commits", () -> y.merge(0));
        y.undo();
        y.edit(0, 0, 0);
        y.edit(0, 1, 9);
        y.commit();
        Check.dueStateFault("merge without a conflict, with 60 commits", () -> y.merge(0));
        Check.due("isMerging", y.isMerging(), false);
    }

    private static void promise15() {
        Check.part("promise 15");
        BranchedSource x = new BranchedSource();
        Scenes.commitLine(x, 0, 0, 1);
        x.newBranch();
        Scenes.commitLine(x, 0, 1, 2);
        x.edit(0, 2, 3);
        x.edit(0, 3, 4);
        x.commit();
        x.switchTo(1);
        Check.due("pick", x.pick(3), 0);
        Check.due("head", x.head(), 4);
        Check.due("firstParent", x.firstParent(4), 1);
        Check.due("secondParent", x.secondParent(4), -1);
        Check.due("lineOf(0, 0)", x.lineOf(0, 0), 1);
        Check.due("lineOf(0, 1)", x.lineOf(0, 1), 0);
        Check.due("lineOf(0, 2)", x.lineOf(0, 2), 3);
        Check.due("lineOf(0, 3)", x.lineOf(0, 3), 4);
        Check.due("changed", x.changed(), 0);
        Check.due("isPicking", x.isPicking(), false);
        BranchedSource open = Scenes.openPick();
        Check.due("isPicking", open.isPicking(), true);
        Check.due("isMerging", open.isMerging(), false);
        Check.due("head", open.head(), 1);
        Check.due("lineOf", open.lineOf(0, 0), 1);
        Check.due("theirs", open.theirs(0, 0), 3);
        open.abort();
        Check.due("pick again", open.pick(3), 1);
        BranchedSource merged = Scenes.fork();
        merged.merge(0);
        merged.reset(1);
        Check.due("pick of a merge takes the change from its first parent", merged.pick(4), 0);
        Check.due("lineOf(0, 1)", merged.lineOf(0, 1), 6);
        Check.due("lineOf(0, 2)", merged.lineOf(0, 2), 0);
    }

    private static void promise15Refused() {
        Check.part("promise 15");
        BranchedSource x = Scenes.fork();
        Check.dueArgumentFault("pick(4)", () -> x.pick(4));
        Check.dueArgumentFault("pick(-1)", () -> x.pick(-1));
        Check.dueStateFault("pick(0)", () -> x.pick(0));
        Check.dueStateFault("pick of what is there", () -> x.pick(3));
        Check.dueStateFault("pick of what is there from before", () -> x.pick(1));
        x.edit(3, 3, 3);
        Check.dueStateFault("pick with a change", () -> x.pick(2));
        Check.dueArgumentFault("pick(4) with a change", () -> x.pick(4));
        x.reset(3);
        Check.due("pick without it", x.pick(2), 0);
        BranchedSource open = Scenes.openPick();
        Check.due("changed", open.changed(), 0);
        Check.dueStateFault("pick while one is open", () -> open.pick(3));
        Check.due("allConflicts", open.allConflicts(), 1);
        BranchedSource full = Scenes.full();
        full.reset(1);
        Check.dueStateFault("pick with 60 commits", () -> full.pick(2));
        Check.dueStateFault("pick with a conflict, with 60 commits", () -> full.pick(5));
    }

    private static void promise16() {
        Check.part("promise 16");
        BranchedSource x = new BranchedSource();
        Scenes.commitLine(x, 0, 0, 1);
        Scenes.commitLine(x, 0, 1, 2);
        Check.due("revert", x.revert(1), 0);
        Check.due("head", x.head(), 3);
        Check.due("firstParent", x.firstParent(3), 2);
        Check.due("secondParent", x.secondParent(3), -1);
        Check.due("lineOf(0, 0)", x.lineOf(0, 0), 0);
        Check.due("lineOf(0, 1)", x.lineOf(0, 1), 2);
        Check.dueStateFault("revert again", () -> x.revert(1));
        Check.due("revert of the revert", x.revert(3), 0);
        Check.due("lineOf(0, 0)", x.lineOf(0, 0), 1);
        Check.dueArgumentFault("revert(5)", () -> x.revert(5));
        Check.dueArgumentFault("revert(-1)", () -> x.revert(-1));
        Check.dueStateFault("revert(0)", () -> x.revert(0));
        x.edit(3, 3, 3);
        Check.dueStateFault("revert with a change", () -> x.revert(1));
        x.reset(4);
        Scenes.commitLine(x, 0, 0, 8);
        Check.due("revert with a conflict", x.revert(1), 1);
        Check.due("isPicking", x.isPicking(), true);
        Check.due("theirs", x.theirs(0, 0), 0);
        Check.due("lineOf", x.lineOf(0, 0), 8);
        Check.dueStateFault("revert while one is open", () -> x.revert(2));
        BranchedSource full = Scenes.full();
        Check.dueStateFault("revert with 60 commits", () -> full.revert(59));
    }

    private static void promise17() {
        Check.part("promise 17");
        BranchedSource x = Scenes.fork();
        Scenes.commitLine(x, 0, 3, 8);
        Check.due("replay", x.replay(0), 2);
        Check.due("commits", x.commits(), 7);
        Check.due("head", x.head(), 6);
        Check.due("firstParent(6)", x.firstParent(6), 5);
        Check.due("firstParent(5)", x.firstParent(5), 2);
        Check.due("secondParent(6)", x.secondParent(6), -1);
        Check.due("lineAt(5, 0, 1)", x.lineAt(5, 0, 1), 6);
        Check.due("lineAt(5, 0, 2)", x.lineAt(5, 0, 2), 7);
        Check.due("lineAt(5, 0, 3)", x.lineAt(5, 0, 3), 0);
        Check.due("lineAt(6, 0, 3)", x.lineAt(6, 0, 3), 8);
        Check.due("lineOf(0, 3)", x.lineOf(0, 3), 8);
        Check.due("current", x.current(), 1);
        Check.due("changed", x.changed(), 0);
        Check.due("the other branch", x.standsAt(0), 2);
        Check.due("lost", x.lost(), 2);
        Check.due("it is one change", x.undo(), 3);
        Check.due("head", x.head(), 4);
        BranchedSource behind = Scenes.fork();
        behind.reset(1);
        Check.due("replay on one that is ahead", behind.replay(0), 0);
        Check.due("head", behind.head(), 2);
        Check.due("lineOf(0, 1)", behind.lineOf(0, 1), 6);
        Check.due("commits", behind.commits(), 4);
    }

    private static void promise17LeavesOut() {
        Check.part("promise 17");
        BranchedSource x = Scenes.fork();
        Scenes.commitLine(x, 0, 1, 6);
        Scenes.commitLine(x, 0, 4, 9);
        Check.due("replay leaves out what is there", x.replay(0), 2);
        Check.due("head", x.head(), 7);
        Check.due("firstParent(7)", x.firstParent(7), 6);
        Check.due("firstParent(6)", x.firstParent(6), 2);
        Check.due("lineOf(0, 4)", x.lineOf(0, 4), 9);
        BranchedSource y = Scenes.fork();
        y.newBranch();
        y.switchTo(2);
        Scenes.commitLine(y, 1, 1, 1);
        y.switchTo(1);
        Scenes.commitLine(y, 2, 2, 2);
        y.merge(2);
        Check.due("head", y.head(), 6);
        Check.due("replay goes by first parents", y.replay(0), 3);
        Check.due("differences", y.differences(9, 6), 1);
        Check.due("secondParent", y.secondParent(9), -1);
        Check.due("lineAt(7, 0, 2)", y.lineAt(7, 0, 2), 7);
        Check.due("lineAt(8, 2, 2)", y.lineAt(8, 2, 2), 2);
        Check.due("lineAt(8, 1, 1)", y.lineAt(8, 1, 1), 0);
        Check.due("lineAt(9, 1, 1)", y.lineAt(9, 1, 1), 1);
    }

    private static void promise17Refused() {
        Check.part("promise 17");
        BranchedSource x = Scenes.fork();
        Check.dueArgumentFault("replay(6)", () -> x.replay(6));
        Check.dueArgumentFault("replay(-1)", () -> x.replay(-1));
        Check.dueStateFault("replay on none", () -> x.replay(2));
        Check.dueStateFault("replay on the current one", () -> x.replay(1));
        x.edit(3, 3, 3);
        Check.dueStateFault("replay with a change", () -> x.replay(0));
        Check.dueArgumentFault("replay(6) with a change", () -> x.replay(6));
        x.reset(3);
        Scenes.commitLine(x, 1, 1, 1);
        Scenes.commitLine(x, 0, 1, 3);
        Check.dueStateFault("replay with a conflict in the last one", () -> x.replay(0));
        Check.due("head", x.head(), 5);
        Check.due("commits", x.commits(), 6);
        Check.due("conflicts", x.conflicts(), 0);
        Check.due("allConflicts", x.allConflicts(), 0);
        Check.due("lineOf(0, 1)", x.lineOf(0, 1), 3);
        x.switchTo(0);
        x.reset(1);
        x.switchTo(1);
        Check.dueStateFault("replay on one that is reached", () -> x.replay(0));
        BranchedSource open = Scenes.openPick();
        Check.dueStateFault("replay while one is open", () -> open.replay(0));
    }

    private static void promise17Full() {
        Check.part("promise 17");
        BranchedSource x = Scenes.fork();
        Scenes.commitLine(x, 0, 1, 6);
        Scenes.commitLine(x, 0, 3, 8);
        x.newBranch();
        x.switchTo(2);
        for (int k = x.commits(); k < 58; k++) {
            Scenes.commitLine(x, 3, 0, k);
        }
        x.switchTo(1);
        Check.due("replay up to 60 commits", x.replay(0), 2);
        Check.due("commits", x.commits(), 60);
        x.undo();
        x.switchTo(2);
        Scenes.commitLine(x, 3, 0, 99);
        x.switchTo(1);
        Check.dueStateFault("replay beyond 60 commits", () -> x.replay(0));
        Check.due("commits", x.commits(), 59);
        Check.due("head", x.head(), 5);
        x.switchTo(2);
        Scenes.commitLine(x, 3, 0, 98);
        x.switchTo(1);
        x.reset(1);
        Check.due("replay of nothing with 60 commits", x.replay(0), 0);
        Check.due("head", x.head(), 2);
    }
}
