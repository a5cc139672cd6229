/** The edges of promises 18 to 26: a test for each sentence. */
public final class ConflictsEdgesTest {
    public static void main(String[] args) {
        resolveOutOfRange();
        resolveOfNoConflict();
        resolveByBothSides();
        resolveDownToNone();
        abortOfNothing();
        abortCountsWhatIsLeft();
        abortOfEachKind();
        isConflictOutOfRange();
        theirsOutOfRange();
        theirsOfNoConflict();
        theirsAtLeastAndGreatest();
        noConflictAtAll();
        allLinesInConflict();
        regionsEndWithTheirFile();
        regionsAsLongAsPossible();
        openWithoutConflicts();
        Check.end();
    }

    private static final Refused.Scene[] SCENES = {
        Scenes::marked,
        () -> Scenes.openMerge(Scenes.marked()),
        () -> Scenes.openMergeResolved(Scenes.marked()),
        () -> Scenes.openPick(Scenes.marked()),
        () -> Scenes.openRevert(Scenes.marked()),
        () -> Scenes.openHighMerge(Scenes.marked()),
    };

    /** A revert of the commit 1 is open on all 24 lines: theirs is 0, ours the number of the place and 10. */
    private static BranchedSource allInConflict(BranchedSource x) {
        for (int first = 40; first >= 10; first -= 30) {
            for (int place = 0; place < 24; place++) {
                x.edit(place / 6, place % 6, first + place);
            }
            x.commit();
        }
        x.revert(1);
        return x;
    }

    private static void resolveOutOfRange() {
        Check.part("promise 18: IllegalArgumentException if file or line is out of range, ahead of no conflict");
        for (Refused.Scene scene : SCENES) {
            for (int file : Refused.outside(0, 3)) {
                Refused.byArgument("resolve of file " + file, scene, x -> x.resolve(file, 0, true));
            }
            for (int line : Refused.outside(0, 5)) {
                Refused.byArgument("resolve of line " + line, scene, x -> x.resolve(1, line, false));
            }
        }
        Refused.Scene all = () -> allInConflict(Scenes.marked());
        Refused.byArgument("resolve of what would be a place", all, x -> x.resolve(0, 6, true));
        Refused.byArgument("resolve of what would be a place", all, x -> x.resolve(1, -1, true));
        Refused.byArgument("resolve of what would be a place", all, x -> x.resolve(-1, 12, true));
        Refused.byArgument("resolve of what would be a place", all, x -> x.resolve(4, -6, true));
    }

    private static void resolveOfNoConflict() {
        Check.part("promise 18: IllegalStateException if the line is not in conflict");
        for (boolean isTheirs : new boolean[] {true, false}) {
            Refused.byState("resolve in a new object", Scenes::marked, x -> x.resolve(0, 0, isTheirs));
            for (int line : new int[] {2, 4, 5}) {
                Refused.byState("resolve beside a conflict", SCENES[1], x -> x.resolve(1, line, isTheirs));
            }
            Refused.byState("resolve of a line that became theirs", SCENES[1], x -> x.resolve(3, 3, isTheirs));
            Refused.byState("resolve of what is resolved", SCENES[2], x -> x.resolve(1, 0, isTheirs));
            Refused.byState("resolve of what is edited", () -> {
                BranchedSource x = Scenes.openMerge(Scenes.marked());
                x.edit(1, 0, 3);
                return x;
            }, x -> x.resolve(1, 0, isTheirs));
            Refused.byState("resolve of what is aborted", () -> {
                BranchedSource x = Scenes.openMerge(Scenes.marked());
                x.abort();
                return x;
            }, x -> x.resolve(1, 0, isTheirs));
            Refused.byState("resolve of what is reset", () -> {
                BranchedSource x = Scenes.openMerge(Scenes.marked());
                x.reset(2);
                return x;
            }, x -> x.resolve(1, 0, isTheirs));
        }
    }

    private static void resolveByBothSides() {
        Check.part("promise 18: true: the line becomes theirs; false: it stays");
        for (int place = 0; place < 24; place++) {
            for (boolean isTheirs : new boolean[] {true, false}) {
                BranchedSource x = allInConflict(new BranchedSource());
                Check.due("resolve", x.resolve(place / 6, place % 6, isTheirs), 23);
                Check.due("lineOf", x.lineOf(place / 6, place % 6), isTheirs ? 0 : 10 + place);
                Check.due("isConflict", x.isConflict(place / 6, place % 6), false);
                Check.due("changed", x.changed(), isTheirs ? 1 : 0);
            }
        }
    }

    private static void resolveDownToNone() {
        Check.part("promise 18: returns how many lines are in conflict then");
        BranchedSource x = allInConflict(new BranchedSource());
        for (int place = 23; place >= 0; place--) {
            Check.due("resolve", x.resolve(place / 6, place % 6, place % 2 == 0), place);
        }
        Check.due("the revert stays open", x.isPicking(), true);
        Check.due("commit", x.commit(), 3);
        Check.due("differences", x.differences(3, 2), 12);
    }

    private static void abortOfNothing() {
        Check.part("promise 19: IllegalStateException if nothing is open");
        Refused.byState("abort", Scenes::marked, x -> x.abort());
        Refused.byState("abort with a change", BranchesEdgesTest::forkWithChange, x -> x.abort());
        Refused.byState("abort behind abort", () -> {
            BranchedSource x = Scenes.openMerge(Scenes.marked());
            x.abort();
            return x;
        }, x -> x.abort());
        Refused.byState("abort behind commit", () -> {
            BranchedSource x = Scenes.openMergeResolved(Scenes.marked());
            x.commit();
            return x;
        }, x -> x.abort());
        Refused.byState("abort behind reset", () -> {
            BranchedSource x = Scenes.openPick(Scenes.marked());
            x.reset(1);
            return x;
        }, x -> x.abort());
        Refused.byState("abort of a merge without a conflict", () -> {
            BranchedSource x = Scenes.fork(Scenes.marked());
            x.merge(0);
            return x;
        }, x -> x.abort());
        Refused.byState("abort of a pick without a conflict", () -> {
            BranchedSource x = Scenes.fork(Scenes.marked());
            x.pick(2);
            return x;
        }, x -> x.abort());
    }

    private static void abortCountsWhatIsLeft() {
        Check.part("promise 19: returns how many lines were in conflict, 0 if all were resolved");
        for (int resolved = 0; resolved <= 24; resolved++) {
            BranchedSource x = allInConflict(new BranchedSource());
            for (int place = 0; place < resolved; place++) {
                x.resolve(place / 6, place % 6, true);
            }
            Check.due("abort", x.abort(), 24 - resolved);
            Check.due("changed", x.changed(), 0);
            Check.due("conflicts", x.conflicts(), 0);
            Check.due("lineOf", x.lineOf(3, 5), 33);
        }
    }

    private static void abortOfEachKind() {
        Check.part("promise 19: aborts what is open; the working tree is clean then");
        for (int kind = 1; kind < SCENES.length; kind++) {
            BranchedSource x = SCENES[kind].made();
            x.edit(3, 5, 90);
            int head = x.head();
            int commits = x.commits();
            int conflicts = x.conflicts();
            Check.due("abort", x.abort(), conflicts);
            Check.due("isMerging", x.isMerging(), false);
            Check.due("isPicking", x.isPicking(), false);
            Check.due("conflicts", x.conflicts(), 0);
            Check.due("changed", x.changed(), 0);
            Check.due("lineOf", x.lineOf(3, 5), 0);
            Check.due("head", x.head(), head);
            Check.due("commits", x.commits(), commits);
            Check.due("the next commit", Scenes.commitLine(x, 3, 5, 91), commits);
            Check.due("has one parent", x.secondParent(commits), -1);
        }
    }

    private static void isConflictOutOfRange() {
        Check.part("promise 20: IllegalArgumentException if file or line is out of range");
        for (Refused.Scene scene : SCENES) {
            for (int file : Refused.outside(0, 3)) {
                Refused.byArgument("isConflict of file " + file, scene, x -> x.isConflict(file, 0));
            }
            for (int line : Refused.outside(0, 5)) {
                Refused.byArgument("isConflict of line " + line, scene, x -> x.isConflict(1, line));
            }
        }
    }

    private static void theirsOutOfRange() {
        Check.part("promise 21: IllegalArgumentException if file or line is out of range, ahead of no conflict");
        for (Refused.Scene scene : SCENES) {
            for (int file : Refused.outside(0, 3)) {
                Refused.byArgument("theirs of file " + file, scene, x -> x.theirs(file, 0));
            }
            for (int line : Refused.outside(0, 5)) {
                Refused.byArgument("theirs of line " + line, scene, x -> x.theirs(1, line));
            }
        }
        Refused.Scene all = () -> allInConflict(Scenes.marked());
        Refused.byArgument("theirs of what would be a place", all, x -> x.theirs(0, 6));
        Refused.byArgument("theirs of what would be a place", all, x -> x.theirs(1, -1));
        Refused.byArgument("theirs of what would be a place", all, x -> x.theirs(-1, 12));
    }

    private static void theirsOfNoConflict() {
        Check.part("promise 21: IllegalStateException if the line is not in conflict");
        Refused.byState("theirs in a new object", Scenes::marked, x -> x.theirs(3, 5));
        Refused.byState("theirs beside a conflict", SCENES[1], x -> x.theirs(1, 2));
        Refused.byState("theirs of a line that became theirs", SCENES[1], x -> x.theirs(3, 3));
        Refused.byState("theirs of what is resolved", SCENES[2], x -> x.theirs(1, 0));
        Refused.byState("theirs of what is edited", () -> {
            BranchedSource x = Scenes.openPick(Scenes.marked());
            x.edit(0, 0, 1);
            return x;
        }, x -> x.theirs(0, 0));
        Refused.byState("theirs of what is committed", () -> {
            BranchedSource x = Scenes.openMergeResolved(Scenes.marked());
            x.commit();
            return x;
        }, x -> x.theirs(1, 0));
    }

    private static void theirsAtLeastAndGreatest() {
        Check.part("promise 21: a line is a number from 0 to 99, theirs too");
        for (int theirs : new int[] {0, 1, 99}) {
            BranchedSource x = new BranchedSource();
            Scenes.commitLine(x, 3, 5, 50);
            x.newBranch();
            Scenes.commitLine(x, 3, 5, theirs);
            x.switchTo(1);
            Scenes.commitLine(x, 3, 5, 60);
            Check.due("merge", x.merge(0), 1);
            Check.due("isConflict", x.isConflict(3, 5), true);
            Check.due("theirs", x.theirs(3, 5), theirs);
            Check.due("lineOf", x.lineOf(3, 5), 60);
            Check.due("resolve", x.resolve(3, 5, true), 0);
            Check.due("lineOf", x.lineOf(3, 5), theirs);
        }
    }

    private static void dueRegions(BranchedSource x, int conflicts, int regions, int longest) {
        Check.due("conflicts", x.conflicts(), conflicts);
        Check.due("regions", x.regions(), regions);
        Check.due("longestRegion", x.longestRegion(), longest);
    }

    private static void noConflictAtAll() {
        Check.part("promises 22 to 24: none in conflict; 0 if there is none");
        dueRegions(new BranchedSource(), 0, 0, 0);
        dueRegions(Scenes.fork(), 0, 0, 0);
        dueRegions(Scenes.openMergeResolved(new BranchedSource()), 0, 0, 0);
        BranchedSource aborted = allInConflict(new BranchedSource());
        aborted.abort();
        dueRegions(aborted, 0, 0, 0);
        BranchedSource undone = allInConflict(new BranchedSource());
        undone.undo();
        dueRegions(undone, 0, 0, 0);
    }

    private static void allLinesInConflict() {
        Check.part("promises 22 to 24: all lines in conflict");
        dueRegions(allInConflict(new BranchedSource()), 24, 4, 6);
    }

    private static BranchedSource inConflictOnly(String places) {
        BranchedSource x = allInConflict(new BranchedSource());
        for (int place = 0; place < 24; place++) {
            if (places.charAt(place) == '.') {
                x.resolve(place / 6, place % 6, place % 2 == 0);
            }
        }
        return x;
    }

    private static void regionsEndWithTheirFile() {
        Check.part("terms: a region is a row of lines of a file");
        dueRegions(inConflictOnly(".....#" + "#....." + "......" + "......"), 2, 2, 1);
        dueRegions(inConflictOnly("....##" + "###..." + "......" + "......"), 5, 2, 3);
        dueRegions(inConflictOnly("......" + ".....#" + "######" + "#....."), 8, 3, 6);
        dueRegions(inConflictOnly("#....." + "#....." + "#....." + "#....."), 4, 4, 1);
        dueRegions(inConflictOnly(".....#" + ".....#" + ".....#" + ".....#"), 4, 4, 1);
        dueRegions(inConflictOnly("######" + "######" + "......" + "......"), 12, 2, 6);
    }

    private static void regionsAsLongAsPossible() {
        Check.part("terms: one behind the other, that are all in conflict, as long as possible");
        dueRegions(inConflictOnly("#.#.#." + ".#.#.#" + "#.#.#." + ".#.#.#"), 12, 12, 1);
        dueRegions(inConflictOnly("##.##." + "......" + "......" + ".....#"), 5, 3, 2);
        dueRegions(inConflictOnly("......" + "......" + "......" + ".#####"), 5, 1, 5);
        dueRegions(inConflictOnly("####.." + ".###.." + "..##.." + "...#.."), 10, 4, 4);
        dueRegions(inConflictOnly("...#.." + "..##.." + ".###.." + "####.."), 10, 4, 4);
        dueRegions(inConflictOnly("#.####" + "......" + "......" + "......"), 5, 2, 4);
        dueRegions(inConflictOnly("####.#" + "......" + "......" + "......"), 5, 2, 4);
    }

    private static void openWithoutConflicts() {
        Check.part("promises 25, 26, terms: open until it is committed or aborted, or reset is called");
        boolean[] merging = {false, true, true, false, false, true};
        boolean[] picking = {false, false, false, true, true, false};
        for (int kind = 0; kind < SCENES.length; kind++) {
            BranchedSource x = SCENES[kind].made();
            dueOpen(x, merging[kind], picking[kind]);
            for (int place = 0; place < 24; place++) {
                if (x.isConflict(place / 6, place % 6)) {
                    x.resolve(place / 6, place % 6, false);
                }
            }
            dueOpen(x, merging[kind], picking[kind]);
            for (int place = 0; place < 24; place++) {
                x.edit(place / 6, place % 6, 70);
            }
            dueOpen(x, merging[kind], picking[kind]);
            x.newBranch();
            dueOpen(x, merging[kind], picking[kind]);
            x.dropBranch(x.branches() - 1);
            dueOpen(x, merging[kind], picking[kind]);
            x.commit();
            dueOpen(x, false, false);
        }
    }

    private static void dueOpen(BranchedSource x, boolean isMerging, boolean isPicking) {
        Check.due("isMerging", x.isMerging(), isMerging);
        Check.due("isPicking", x.isPicking(), isPicking);
    }
}
