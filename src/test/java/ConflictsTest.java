/** Promises 18 to 26. */
public final class ConflictsTest {
    public static void main(String[] args) {
        promise18();
        promise19();
        promise20and21();
        promise22to24();
        promise23and24AtTheEdges();
        promise25and26();
        Check.end();
    }

    private static void promise18() {
        Check.part("promise 18");
        BranchedSource x = Scenes.openMerge();
        Check.due("resolve by theirs", x.resolve(1, 0, true), 3);
        Check.due("lineOf(1, 0)", x.lineOf(1, 0), 2);
        Check.due("resolve by ours", x.resolve(1, 1, false), 2);
        Check.due("lineOf(1, 1)", x.lineOf(1, 1), 3);
        Check.due("isConflict(1, 1)", x.isConflict(1, 1), false);
        Check.dueStateFault("resolve again", () -> x.resolve(1, 0, true));
        Check.dueStateFault("resolve of another line", () -> x.resolve(3, 3, true));
        Check.dueArgumentFault("resolve(4, 0)", () -> x.resolve(4, 0, true));
        Check.dueArgumentFault("resolve(-1, 0)", () -> x.resolve(-1, 0, true));
        Check.dueArgumentFault("resolve(0, 6)", () -> x.resolve(0, 6, false));
        Check.dueArgumentFault("resolve(0, -1)", () -> x.resolve(0, -1, false));
        x.resolve(1, 3, true);
        Check.due("resolve of the last one", x.resolve(2, 0, true), 0);
        Check.due("the merge stays open", x.isMerging(), true);
        Check.due("commit", x.commit(), 3);
        BranchedSource pick = Scenes.openPick();
        Check.due("resolve of a pick", pick.resolve(0, 0, true), 0);
        Check.due("isPicking", pick.isPicking(), true);
        Check.due("lineOf", pick.lineOf(0, 0), 3);
        BranchedSource zero = new BranchedSource();
        Scenes.commitLine(zero, 0, 0, 1);
        Scenes.commitLine(zero, 0, 0, 2);
        zero.revert(1);
        Check.due("resolve by a 0", zero.resolve(0, 0, true), 0);
        Check.due("lineOf", zero.lineOf(0, 0), 0);
    }

    private static void promise19() {
        Check.part("promise 19");
        BranchedSource x = Scenes.openMerge();
        x.resolve(1, 0, true);
        x.edit(0, 0, 50);
        Check.due("abort", x.abort(), 3);
        Check.due("isMerging", x.isMerging(), false);
        Check.due("conflicts", x.conflicts(), 0);
        Check.due("changed", x.changed(), 0);
        Check.due("head", x.head(), 2);
        Check.due("lineOf(1, 0)", x.lineOf(1, 0), 3);
        Check.due("lineOf(3, 3)", x.lineOf(3, 3), 0);
        Check.dueStateFault("abort again", x::abort);
        Check.due("commit after it has one parent", Scenes.commitLine(x, 0, 0, 1), 3);
        Check.due("secondParent", x.secondParent(3), -1);
        BranchedSource pick = Scenes.openPick();
        pick.resolve(0, 0, true);
        Check.due("abort of a pick without conflicts", pick.abort(), 0);
        Check.due("isPicking", pick.isPicking(), false);
        Check.due("lineOf", pick.lineOf(0, 0), 1);
        BranchedSource fresh = new BranchedSource();
        fresh.edit(0, 0, 1);
        Check.dueStateFault("abort of nothing", fresh::abort);
        Check.due("changed", fresh.changed(), 1);
    }

    private static void promise20and21() {
        Check.part("promises 20, 21");
        BranchedSource x = Scenes.openMerge();
        for (int place = 0; place < 24; place++) {
            int file = place / 6;
            int line = place % 6;
            boolean want = place == 6 || place == 7 || place == 9 || place == 12;
            Check.due("isConflict of place " + place, x.isConflict(file, line), want);
            if (want) {
                Check.due("theirs of place " + place, x.theirs(file, line), 2);
            } else {
                Check.dueStateFault("theirs of place " + place, () -> x.theirs(file, line));
            }
        }
        for (int wrong : new int[] {-1, 6, Integer.MAX_VALUE, Integer.MIN_VALUE}) {
            Check.dueArgumentFault("isConflict of a line out of range", () -> x.isConflict(0, wrong));
            Check.dueArgumentFault("isConflict of a file out of range", () -> x.isConflict(wrong, 0));
            Check.dueArgumentFault("theirs of a line out of range", () -> x.theirs(0, wrong));
            Check.dueArgumentFault("theirs of a file out of range", () -> x.theirs(wrong, 0));
        }
        Check.dueArgumentFault("isConflict(4, 0)", () -> x.isConflict(4, 0));
        Check.dueArgumentFault("theirs(4, 0)", () -> x.theirs(4, 0));
    }

    private static void promise22to24() {
        Check.part("promises 22 to 24");
        BranchedSource x = Scenes.openMerge();
        dueRegions(x, 4, 3, 2);
        x.edit(1, 3, 0);
        dueRegions(x, 3, 2, 2);
        x.resolve(1, 0, false);
        dueRegions(x, 2, 2, 1);
        x.resolve(2, 0, false);
        dueRegions(x, 1, 1, 1);
        x.resolve(1, 1, false);
        dueRegions(x, 0, 0, 0);
        dueRegions(new BranchedSource(), 0, 0, 0);
    }

    /** Regions end with their file: the last line of one and the first of the next are two regions. */
    private static void promise23and24AtTheEdges() {
        Check.part("promises 22 to 24");
        BranchedSource x = new BranchedSource();
        editAll(x, 1);
        x.commit();
        editAll(x, 2);
        x.commit();
        x.revert(1);
        dueRegions(x, 24, 4, 6);
        x.edit(1, 3, 1);
        dueRegions(x, 23, 5, 6);
        x.edit(0, 0, 1);
        x.edit(2, 5, 1);
        x.edit(3, 1, 1);
        dueRegions(x, 20, 6, 5);
        x.edit(2, 1, 1);
        x.edit(2, 3, 1);
        x.edit(0, 2, 1);
        dueRegions(x, 17, 9, 4);
    }

    private static void editAll(BranchedSource x, int value) {
        for (int place = 0; place < 24; place++) {
            x.edit(place / 6, place % 6, value);
        }
    }

    private static void dueRegions(BranchedSource x, int conflicts, int regions, int longest) {
        Check.due("conflicts", x.conflicts(), conflicts);
        Check.due("regions", x.regions(), regions);
        Check.due("longestRegion", x.longestRegion(), longest);
    }

    private static void promise25and26() {
        Check.part("promises 25, 26");
        BranchedSource x = Scenes.openMerge();
        dueOpen(x, true, false);
        x.undo();
        dueOpen(x, false, false);
        x.pick(1);
        dueOpen(x, false, true);
        x.abort();
        dueOpen(x, false, false);
        BranchedSource y = new BranchedSource();
        Scenes.commitLine(y, 0, 0, 1);
        Scenes.commitLine(y, 0, 0, 2);
        y.revert(1);
        dueOpen(y, false, true);
        y.edit(0, 0, 5);
        dueOpen(y, false, true);
        y.commit();
        dueOpen(y, false, false);
    }

    private static void dueOpen(BranchedSource x, boolean isMerging, boolean isPicking) {
        Check.due("isMerging", x.isMerging(), isMerging);
        Check.due("isPicking", x.isPicking(), isPicking);
    }
}
