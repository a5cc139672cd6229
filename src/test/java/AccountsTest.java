/** Promises 53 to 56. */
public final class AccountsTest {
    public static void main(String[] args) {
        promises53and54();
        promises53and54AtTheEdges();
        promise55();
        promise56();
        Check.end();
    }

    private static void promises53and54() {
        Check.part("promises 53, 54");
        BranchedSource x = Scenes.openMerge();
        Check.due("wouldConflict", x.wouldConflict(0), 4);
        Check.due("wouldBecome", x.wouldBecome(0), 1);
        x.resolve(1, 0, true);
        Check.due("the head's tree counts, not the working tree", x.wouldConflict(0), 4);
        Check.due("conflicts stay as they are", x.conflicts(), 3);
        x.abort();
        x.switchTo(0);
        Check.due("wouldConflict the other way", x.wouldConflict(1), 4);
        Check.due("wouldBecome the other way", x.wouldBecome(1), 0);
        Check.due("head", x.head(), 1);
        Check.due("changed", x.changed(), 0);
    }

    private static void promises53and54AtTheEdges() {
        Check.part("promises 53, 54");
        BranchedSource x = Scenes.fork();
        Check.due("of the current one", x.wouldConflict(1), 0);
        Check.due("of the current one", x.wouldBecome(1), 0);
        Check.due("without a conflict", x.wouldConflict(0), 0);
        Check.due("without a conflict", x.wouldBecome(0), 1);
        x.edit(0, 1, 99);
        Check.due("with a changed tree", x.wouldConflict(0), 0);
        Check.due("with a changed tree", x.wouldBecome(0), 1);
        Check.due("lineOf", x.lineOf(0, 1), 99);
        x.reset(1);
        Check.due("of one that is ahead", x.wouldBecome(0), 1);
        x.switchTo(0);
        Check.due("of one that is behind", x.wouldBecome(1), 0);
        Check.due("of one that is behind", x.wouldConflict(1), 0);
        Check.dueStateFault("wouldConflict of none", () -> x.wouldConflict(2));
        Check.dueStateFault("wouldBecome of none", () -> x.wouldBecome(2));
        for (int wrong : new int[] {-1, 6, Integer.MAX_VALUE, Integer.MIN_VALUE}) {
            Check.dueArgumentFault("wouldConflict of " + wrong, () -> x.wouldConflict(wrong));
            Check.dueArgumentFault("wouldBecome of " + wrong, () -> x.wouldBecome(wrong));
        }
        BranchedSource crossed = Scenes.crossed();
        Scenes.commitLine(crossed, 0, 0, 9);
        crossed.switchTo(0);
        Check.due("told by the base 2", crossed.wouldConflict(1), 1);
        Check.due("told by the base 2", crossed.wouldBecome(1), 0);
    }

    private static void promise55() {
        Check.part("promise 55");
        BranchedSource x = Scenes.crossed();
        Check.due("merges", x.merges(), 2);
        x.switchTo(0);
        x.merge(1);
        Check.due("a merge of trees that are the same", x.merges(), 3);
        x.switchTo(1);
        x.merge(0);
        Check.due("going ahead makes no commit", x.merges(), 3);
        x.reset(0);
        Check.due("lost ones count", x.merges(), 3);
        BranchedSource open = Scenes.openMerge();
        Check.due("an open one does not count", open.merges(), 0);
        Check.due("nor does a pick", Scenes.openPick().merges(), 0);
    }

    private static void promise56() {
        Check.part("promise 56");
        BranchedSource x = Scenes.openMerge();
        Check.due("allConflicts", x.allConflicts(), 4);
        x.resolve(1, 0, true);
        Check.due("resolved ones count", x.allConflicts(), 4);
        x.abort();
        Check.due("aborted ones count", x.allConflicts(), 4);
        x.pick(1);
        Check.due("a pick counts", x.allConflicts(), 8);
        x.reset(2);
        x.revert(1);
        Check.due("a revert counts", x.allConflicts(), 12);
        x.wouldConflict(0);
        Check.due("what would be does not count", x.allConflicts(), 12);
        x.undo();
        Check.due("it belongs to the state", x.allConflicts(), 8);
    }
}
