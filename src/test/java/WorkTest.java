/** Promises 6 to 10. */
public final class WorkTest {
    public static void main(String[] args) {
        promise6();
        promise7();
        promise7OfOpenOnes();
        promise8();
        promise9();
        promise10();
        promise10Conflicts();
        Check.end();
    }

    private static void promise6() {
        Check.part("promise 6");
        BranchedSource x = new BranchedSource();
        Check.due("edit", x.edit(0, 0, 99), 1);
        Check.due("edit", x.edit(3, 5, 1), 2);
        Check.due("edit the same", x.edit(3, 5, 1), 2);
        Check.due("edit another value", x.edit(3, 5, 2), 2);
        Check.due("edit back", x.edit(0, 0, 0), 1);
        Check.due("lineOf(3, 5)", x.lineOf(3, 5), 2);
        Check.due("lineOf(0, 0)", x.lineOf(0, 0), 0);
        Check.dueArgumentFault("edit(4, 0, 0)", () -> x.edit(4, 0, 0));
        Check.dueArgumentFault("edit(-1, 0, 0)", () -> x.edit(-1, 0, 0));
        Check.dueArgumentFault("edit(0, 6, 0)", () -> x.edit(0, 6, 0));
        Check.dueArgumentFault("edit(0, -1, 0)", () -> x.edit(0, -1, 0));
        Check.dueArgumentFault("edit(0, 0, 100)", () -> x.edit(0, 0, 100));
        Check.dueArgumentFault("edit(0, 0, -1)", () -> x.edit(0, 0, -1));
        Check.dueArgumentFault("edit(1, highest, 1)", () -> x.edit(1, Integer.MAX_VALUE, 1));
        Check.due("changed", x.changed(), 1);
        BranchedSource open = Scenes.openMerge();
        Check.due("edit in a conflict", open.edit(1, 0, 3), 1);
        Check.due("is in conflict no longer", open.isConflict(1, 0), false);
        Check.due("conflicts", open.conflicts(), 3);
        Check.due("isMerging", open.isMerging(), true);
    }

    private static void promise7() {
        Check.part("promise 7");
        BranchedSource x = new BranchedSource();
        Check.dueStateFault("commit of a clean tree", x::commit);
        x.edit(0, 0, 1);
        Check.due("commit", x.commit(), 1);
        Check.due("head", x.head(), 1);
        Check.due("standsAt(0)", x.standsAt(0), 1);
        Check.due("changed", x.changed(), 0);
        Check.due("firstParent", x.firstParent(1), 0);
        Check.due("secondParent", x.secondParent(1), -1);
        Check.due("lineAt", x.lineAt(1, 0, 0), 1);
        Check.due("lineAt of the parent", x.lineAt(0, 0, 0), 0);
        x.edit(0, 0, 2);
        x.edit(0, 0, 1);
        Check.dueStateFault("commit of what is edited back", x::commit);
        x.newBranch();
        Check.due("commit", Scenes.commitLine(x, 0, 0, 7), 2);
        Check.due("another branch stays", x.standsAt(1), 1);
        BranchedSource full = Scenes.full();
        Check.due("commits", full.commits(), 60);
        full.edit(0, 0, 77);
        Check.dueStateFault("commit beyond 60", full::commit);
        Check.due("changed", full.changed(), 1);
    }

    private static void promise7OfOpenOnes() {
        Check.part("promise 7");
        BranchedSource x = Scenes.openMerge();
        Check.dueStateFault("commit with conflicts", x::commit);
        x.resolve(1, 0, false);
        x.resolve(1, 1, false);
        x.resolve(1, 3, false);
        Check.dueStateFault("commit with one conflict", x::commit);
        x.resolve(2, 0, false);
        x.edit(3, 3, 0);
        Check.due("changed", x.changed(), 0);
        Check.due("commit of a merge with a clean tree", x.commit(), 3);
        Check.due("firstParent", x.firstParent(3), 2);
        Check.due("secondParent", x.secondParent(3), 1);
        Check.due("isMerging", x.isMerging(), false);
        Check.dueStateFault("commit again", x::commit);
        Check.due("next commit", Scenes.commitLine(x, 0, 5, 1), 4);
        Check.due("has one parent", x.secondParent(4), -1);
        BranchedSource y = Scenes.openPick();
        y.resolve(0, 0, false);
        Check.dueStateFault("commit of a pick with a clean tree", y::commit);
        Check.due("isPicking", y.isPicking(), true);
        Check.due("commit of a pick", Scenes.commitLine(y, 0, 0, 9), 4);
        Check.due("firstParent", y.firstParent(4), 1);
        Check.due("secondParent", y.secondParent(4), -1);
        Check.due("isPicking", y.isPicking(), false);
        BranchedSource z = Scenes.openMerge();
        z.dropBranch(0);
        z.newBranch();
        for (int line = 0; line < 6; line++) {
            z.edit(1, line, 1);
        }
        z.edit(2, 0, 1);
        Check.due("commit when the merged branch is gone", z.commit(), 3);
        Check.due("secondParent", z.secondParent(3), 1);
    }

    private static void promise8() {
        Check.part("promise 8");
        BranchedSource x = Scenes.fork();
        x.edit(3, 3, 3);
        Check.due("reset", x.reset(2), 3);
        Check.due("head", x.head(), 2);
        Check.due("current", x.current(), 1);
        Check.due("changed", x.changed(), 0);
        Check.due("lineOf(0, 1)", x.lineOf(0, 1), 6);
        Check.due("lineOf(0, 2)", x.lineOf(0, 2), 0);
        Check.due("standsAt(0)", x.standsAt(0), 2);
        Check.due("commits stay", x.commits(), 4);
        Check.due("reset to the head", x.reset(2), 2);
        Check.dueArgumentFault("reset(4)", () -> x.reset(4));
        Check.dueArgumentFault("reset(-1)", () -> x.reset(-1));
        Check.dueArgumentFault("reset(highest)", () -> x.reset(Integer.MAX_VALUE));
        BranchedSource open = Scenes.openMerge();
        Check.due("reset of a merge", open.reset(2), 2);
        Check.due("isMerging", open.isMerging(), false);
        Check.due("conflicts", open.conflicts(), 0);
        Check.due("changed", open.changed(), 0);
        BranchedSource pick = Scenes.openPick();
        Check.due("reset of a pick", pick.reset(0), 1);
        Check.due("isPicking", pick.isPicking(), false);
        Check.due("lineOf", pick.lineOf(0, 0), 0);
    }

    private static void promise9() {
        Check.part("promise 9");
        BranchedSource x = new BranchedSource();
        Check.dueStateFault("putAside of a clean tree", x::putAside);
        for (int count = 1; count <= 3; count++) {
            x.edit(0, 0, count);
            Check.due("putAside", x.putAside(), count);
            Check.due("changed", x.changed(), 0);
            Check.due("lineOf", x.lineOf(0, 0), 0);
        }
        x.edit(0, 0, 4);
        Check.dueStateFault("a fourth putAside", x::putAside);
        Check.due("aside", x.aside(), 3);
        Check.due("lineOf", x.lineOf(0, 0), 4);
        BranchedSource open = Scenes.openMerge();
        Check.dueStateFault("putAside of a merge", open::putAside);
        Check.due("isMerging", open.isMerging(), true);
        BranchedSource pick = Scenes.openPick();
        pick.edit(0, 0, 9);
        Check.dueStateFault("putAside of a pick", pick::putAside);
    }

    private static void promise10() {
        Check.part("promise 10");
        BranchedSource x = new BranchedSource();
        Check.dueStateFault("takeBack of nothing", x::takeBack);
        x.edit(0, 0, 1);
        x.edit(0, 1, 1);
        x.putAside();
        x.edit(0, 2, 2);
        x.putAside();
        Check.due("takeBack of the latest", x.takeBack(), 1);
        Check.due("lineOf(0, 2)", x.lineOf(0, 2), 2);
        Check.due("lineOf(0, 0)", x.lineOf(0, 0), 0);
        Check.due("aside", x.aside(), 1);
        x.edit(0, 1, 1);
        Check.due("takeBack on a changed tree", x.takeBack(), 1);
        Check.due("lineOf(0, 0)", x.lineOf(0, 0), 1);
        Check.due("changed", x.changed(), 3);
        Check.due("aside", x.aside(), 0);
        Check.dueStateFault("takeBack of nothing", x::takeBack);
    }

    /** The change is told by the head of the time when it was put aside, not by the head of now. */
    private static void promise10Conflicts() {
        Check.part("promise 10");
        BranchedSource x = new BranchedSource();
        Scenes.commitLine(x, 0, 0, 1);
        x.edit(0, 0, 2);
        x.putAside();
        Scenes.commitLine(x, 0, 0, 3);
        Check.dueStateFault("takeBack with a conflict", x::takeBack);
        Check.due("aside", x.aside(), 1);
        Check.due("changed", x.changed(), 0);
        Check.due("allConflicts", x.allConflicts(), 0);
        x.edit(0, 0, 2);
        Check.due("takeBack of what is there", x.takeBack(), 0);
        Check.due("lineOf", x.lineOf(0, 0), 2);
        x.edit(0, 1, 5);
        x.putAside();
        x.edit(0, 0, 4);
        x.edit(3, 0, 4);
        Check.dueStateFault("takeBack with a conflict in one of two lines", x::takeBack);
        Check.due("lineOf(0, 1)", x.lineOf(0, 1), 0);
        x.edit(0, 0, 3);
        Check.due("takeBack of two lines", x.takeBack(), 2);
        Check.due("lineOf(0, 0)", x.lineOf(0, 0), 2);
        Check.due("lineOf(0, 1)", x.lineOf(0, 1), 5);
        Check.due("lineOf(3, 0)", x.lineOf(3, 0), 4);
        Check.dueStateFault("nothing is left", x::takeBack);
        BranchedSource y = new BranchedSource();
        y.edit(3, 0, 5);
        y.putAside();
        Scenes.commitLine(y, 0, 0, 1);
        Scenes.commitLine(y, 0, 0, 2);
        y.revert(1);
        Check.due("isPicking", y.isPicking(), true);
        Check.dueStateFault("takeBack while one is open", y::takeBack);
        y.abort();
        Check.due("takeBack after it", y.takeBack(), 1);
        Check.due("lineOf(3, 0)", y.lineOf(3, 0), 5);
        Check.due("lineOf(0, 0)", y.lineOf(0, 0), 2);
    }
}
