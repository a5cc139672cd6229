/** The edges of promises 27 to 34: a test for each sentence. */
public final class LinesEdgesTest {
    public static void main(String[] args) {
        fileOutOfRange();
        lineOutOfRange();
        whatWouldBeAPlace();
        commitOutOfRange();
        commitOutOfRangeAtSixty();
        commitThatIsGone();
        everyPlaceHasItsLine();
        isChangedLineByLine();
        changedFromNoneToAll();
        aTreeNeverChanges();
        differencesFromNoneToAll();
        broughtByFirstParent();
        broughtBySecondParent();
        broughtByItself();
        firstWithAnyNumber();
        firstWithNone();
        firstWithTheLowestNumber();
        fullnessFromEmptyToFull();
        Check.end();
    }

    /** A question for a file, a line and a commit, as far as it has them. */
    private interface Question {
        void ask(BranchedSource x, int commit, int file, int line);
    }

    private static final String[] NAMES = {"lineOf", "isChanged", "lineAt", "broughtBy", "firstWith"};
    private static final Question[] QUESTIONS = {
        (x, commit, file, line) -> x.lineOf(file, line),
        (x, commit, file, line) -> x.isChanged(file, line),
        (x, commit, file, line) -> x.lineAt(commit, file, line),
        (x, commit, file, line) -> x.broughtBy(commit, file, line),
        (x, commit, file, line) -> x.firstWith(commit, file, line, 0),
    };
    private static final int FIRST_WITH_COMMIT = 2;

    private static BranchedSource changed() {
        return BranchesEdgesTest.forkWithChange();
    }

    private static void fileOutOfRange() {
        Check.part("promises 27, 28, 30, 32, 33: IllegalArgumentException if file is out of range");
        for (int kind = 0; kind < QUESTIONS.length; kind++) {
            Question question = QUESTIONS[kind];
            for (int file : Refused.outside(0, 3)) {
                Refused.byArgument(NAMES[kind] + " of file " + file, LinesEdgesTest::changed, x -> question.ask(x, 1, file, 0));
            }
            question.ask(changed(), 1, 0, 0);
            question.ask(changed(), 1, 3, 0);
        }
    }

    private static void lineOutOfRange() {
        Check.part("promises 27, 28, 30, 32, 33: IllegalArgumentException if line is out of range");
        for (int kind = 0; kind < QUESTIONS.length; kind++) {
            Question question = QUESTIONS[kind];
            for (int line : Refused.outside(0, 5)) {
                Refused.byArgument(NAMES[kind] + " of line " + line, LinesEdgesTest::changed, x -> question.ask(x, 1, 2, line));
            }
            question.ask(changed(), 1, 3, 5);
        }
    }

    private static void whatWouldBeAPlace() {
        Check.part("promises 27, 28, 30, 32, 33: file and line are each looked at alone");
        int[][] pairs = {{0, 6}, {0, 23}, {1, -1}, {2, -6}, {-1, 6}, {-1, 12}, {4, -1}, {4, -24}};
        for (int kind = 0; kind < QUESTIONS.length; kind++) {
            Question question = QUESTIONS[kind];
            for (int[] pair : pairs) {
                Refused.byArgument(NAMES[kind] + " of " + pair[0] + ", " + pair[1], LinesEdgesTest::changed,
                    x -> question.ask(x, 1, pair[0], pair[1]));
            }
        }
    }

    private static void commitOutOfRange() {
        Check.part("promises 30 to 33: IllegalArgumentException if there is no such commit");
        for (int commit : Refused.outside(0, 3)) {
            for (int kind = FIRST_WITH_COMMIT; kind < QUESTIONS.length; kind++) {
                Question question = QUESTIONS[kind];
                Refused.byArgument(NAMES[kind] + " of commit " + commit, LinesEdgesTest::changed, x -> question.ask(x, commit, 0, 0));
            }
            Refused.byArgument("differences(" + commit + ", 0)", LinesEdgesTest::changed, x -> x.differences(commit, 0));
            Refused.byArgument("differences(0, " + commit + ")", LinesEdgesTest::changed, x -> x.differences(0, commit));
            Refused.byArgument("differences of it twice", LinesEdgesTest::changed, x -> x.differences(commit, commit));
        }
        for (int kind = FIRST_WITH_COMMIT; kind < QUESTIONS.length; kind++) {
            Question question = QUESTIONS[kind];
            Check.dueArgumentFault(NAMES[kind] + " of commit 1 of a new object", () -> question.ask(new BranchedSource(), 1, 0, 0));
            question.ask(new BranchedSource(), 0, 0, 0);
        }
    }

    private static void commitOutOfRangeAtSixty() {
        Check.part("promises 30 to 33: the greatest commit is 59");
        BranchedSource x = Scenes.full();
        for (int commit : Refused.outside(0, 59)) {
            for (int kind = FIRST_WITH_COMMIT; kind < QUESTIONS.length; kind++) {
                Question question = QUESTIONS[kind];
                Check.dueArgumentFault(NAMES[kind] + " of commit " + commit, () -> question.ask(x, commit, 0, 0));
            }
            Check.dueArgumentFault("differences(" + commit + ", 59)", () -> x.differences(commit, 59));
            Check.dueArgumentFault("differences(59, " + commit + ")", () -> x.differences(59, commit));
        }
        Check.due("lineAt", x.lineAt(59, 0, 0), 59);
        Check.due("broughtBy", x.broughtBy(59, 0, 0), 59);
        Check.due("broughtBy from the commit 0", x.broughtBy(59, 3, 5), 0);
        Check.due("firstWith", x.firstWith(59, 0, 0, 59), 59);
        Check.due("differences", x.differences(59, 0), 1);
    }

    private static void commitThatIsGone() {
        Check.part("promises 30 to 33: a commit that is undone, or made behind the snapshot, is no commit");
        BranchedSource undone = Scenes.fork();
        undone.undo();
        BranchedSource back = Scenes.fork();
        back.keep();
        back.merge(0);
        back.goBack();
        for (int kind = FIRST_WITH_COMMIT; kind < QUESTIONS.length; kind++) {
            Question question = QUESTIONS[kind];
            Check.dueArgumentFault(NAMES[kind] + " of what is undone", () -> question.ask(undone, 3, 0, 0));
            Check.dueArgumentFault(NAMES[kind] + " of what is gone back from", () -> question.ask(back, 4, 0, 0));
        }
        Check.dueArgumentFault("differences of what is undone", () -> undone.differences(0, 3));
        Check.dueArgumentFault("differences of what is gone back from", () -> back.differences(4, 4));
    }

    private static void everyPlaceHasItsLine() {
        Check.part("promises 27, 30: each line of each file is a line of its own");
        BranchedSource x = new BranchedSource();
        for (int place = 0; place < 24; place++) {
            x.edit(place / 6, place % 6, 99 - place);
        }
        x.commit();
        for (int place = 0; place < 24; place++) {
            Check.due("lineOf", x.lineOf(place / 6, place % 6), 99 - place);
            Check.due("lineAt(1, ..)", x.lineAt(1, place / 6, place % 6), 99 - place);
            Check.due("lineAt(0, ..)", x.lineAt(0, place / 6, place % 6), 0);
        }
    }

    private static void isChangedLineByLine() {
        Check.part("promise 28, terms: a line is changed if it is not as in the tree of the head");
        for (int place = 0; place < 24; place++) {
            BranchedSource x = new BranchedSource();
            x.edit(place / 6, place % 6, 1);
            for (int other = 0; other < 24; other++) {
                Check.due("isChanged", x.isChanged(other / 6, other % 6), other == place);
            }
            x.commit();
            Check.due("isChanged behind commit", x.isChanged(place / 6, place % 6), false);
            x.edit(place / 6, place % 6, 0);
            Check.due("a 0 can be changed", x.isChanged(place / 6, place % 6), true);
        }
        BranchedSource x = Scenes.openMerge();
        Check.due("isChanged in conflict", x.isChanged(1, 0), false);
        Check.due("isChanged of what became theirs", x.isChanged(3, 3), true);
        x.resolve(1, 0, true);
        Check.due("isChanged of what is resolved", x.isChanged(1, 0), true);
    }

    private static void changedFromNoneToAll() {
        Check.part("promise 29: returns how many; 0 if it is clean");
        BranchedSource x = new BranchedSource();
        Check.due("changed", x.changed(), 0);
        for (int place = 23; place >= 0; place--) {
            x.edit(place / 6, place % 6, 99);
            Check.due("changed", x.changed(), 24 - place);
        }
        x.commit();
        Check.due("changed behind commit", x.changed(), 0);
        x.edit(3, 5, 98);
        x.edit(3, 5, 99);
        Check.due("changed when it is edited back", x.changed(), 0);
        x.edit(3, 5, 0);
        Check.due("one line", x.changed(), 1);
        x.reset(1);
        Check.due("changed behind reset", x.changed(), 0);
    }

    private static void aTreeNeverChanges() {
        Check.part("terms: a commit has a tree that never changes");
        BranchedSource x = Scenes.fork();
        x.edit(0, 0, 60);
        x.putAside();
        x.merge(0);
        x.takeBack();
        x.commit();
        x.revert(1);
        x.abort();
        x.reset(1);
        x.edit(0, 0, 61);
        x.commit();
        x.switchTo(0);
        x.merge(1);
        int[][] want = {{0, 0, 0}, {5, 0, 0}, {5, 6, 0}, {5, 0, 7}, {5, 6, 7}};
        for (int commit = 0; commit < want.length; commit++) {
            for (int line = 0; line < 3; line++) {
                Check.due("lineAt(" + commit + ", 0, " + line + ")", x.lineAt(commit, 0, line), want[commit][line]);
            }
        }
    }

    private static void differencesFromNoneToAll() {
        Check.part("promise 31: by how many lines the trees of two commits differ, from 0 to 24");
        BranchedSource x = new BranchedSource();
        for (int place = 0; place < 24; place++) {
            Scenes.commitLine(x, place / 6, place % 6, 1);
        }
        for (int commit = 0; commit <= 24; commit++) {
            Check.due("differences(0, " + commit + ")", x.differences(0, commit), commit);
            Check.due("differences(" + commit + ", 24)", x.differences(commit, 24), 24 - commit);
            Check.due("differences of one", x.differences(commit, commit), 0);
        }
        BranchedSource y = Scenes.fork();
        y.edit(3, 3, 3);
        Check.due("the working tree does not count", y.differences(3, 3), 0);
    }

    private static void broughtByFirstParent() {
        Check.part("promise 32: if the line is the same in the tree of its first parent, it is the one that brought it there");
        BranchedSource x = Scenes.full();
        for (int commit = 0; commit < 60; commit++) {
            Check.due("a line that each one changed", x.broughtBy(commit, 0, 0), commit);
            Check.due("a line that none changed", x.broughtBy(commit, 3, 5), 0);
        }
        BranchedSource both = Scenes.apart(new BranchedSource(), 3, false);
        both.switchTo(0);
        Scenes.commitLine(both, 3, 5, 90);
        both.merge(1);
        Check.due("head", both.head(), 4);
        Check.due("the same in both parents", both.broughtBy(4, 3, 5), 3);
    }

    private static void broughtBySecondParent() {
        Check.part("promise 32: otherwise, if the line is the same in the tree of its second parent");
        BranchedSource x = Scenes.apart(new BranchedSource(), 4, false);
        x.merge(0);
        Check.due("head", x.head(), 4);
        Check.due("by the second parent", x.broughtBy(4, 0, 0), 3);
        Check.due("by the first parent", x.broughtBy(4, 3, 5), 1);
        Scenes.commitLine(x, 1, 1, 1);
        Check.due("by the second parent of the first one", x.broughtBy(5, 0, 0), 3);
    }

    private static void broughtByItself() {
        Check.part("promise 32: otherwise it is the commit itself");
        BranchedSource x = Scenes.openMerge();
        x.edit(1, 0, 2);
        x.edit(1, 1, 3);
        x.edit(1, 3, 4);
        x.edit(2, 0, 0);
        x.commit();
        Check.due("theirs", x.broughtBy(3, 1, 0), 1);
        Check.due("ours", x.broughtBy(3, 1, 1), 2);
        Check.due("neither", x.broughtBy(3, 1, 3), 3);
        Check.due("neither, though the commit 0 had it", x.broughtBy(3, 2, 0), 3);
        Check.due("of the commit 0", x.broughtBy(0, 2, 0), 0);
        BranchedSource again = new BranchedSource();
        for (int value : new int[] {5, 0, 5}) {
            Scenes.commitLine(again, 2, 2, value);
        }
        Check.due("what was there before, and gone", again.broughtBy(3, 2, 2), 3);
        Check.due("a 0 that is brought anew", again.broughtBy(2, 2, 2), 2);
    }

    private static void firstWithAnyNumber() {
        Check.part("promise 33: value is any number");
        BranchedSource x = Scenes.fork();
        for (int value : Refused.outside(0, 99)) {
            Check.due("firstWith " + value, x.firstWith(3, 0, 0, value), -1);
        }
        BranchedSource most = new BranchedSource();
        Scenes.commitLine(most, 3, 5, 99);
        Check.due("firstWith 99", most.firstWith(1, 3, 5, 99), 1);
        Check.due("firstWith 100", most.firstWith(1, 3, 5, 100), -1);
        Check.due("firstWith 0", most.firstWith(1, 3, 5, 0), 0);
        Check.due("firstWith -1", most.firstWith(1, 3, 5, -1), -1);
        for (int value : new int[] {-1, 100, Integer.MIN_VALUE, Integer.MAX_VALUE}) {
            Refused.byArgument("firstWith " + value + " of no commit", Scenes::marked, y -> y.firstWith(1, 0, 0, value));
        }
    }

    private static void firstWithNone() {
        Check.part("promise 33: -1 if there is none");
        BranchedSource x = Scenes.fork();
        Check.due("a value that none has", x.firstWith(3, 0, 0, 6), -1);
        Check.due("a value of a commit that is not reached", x.firstWith(3, 0, 1, 6), -1);
        Check.due("a value of a later commit", x.firstWith(1, 0, 2, 7), -1);
        x.edit(3, 3, 3);
        Check.due("a value of the working tree", x.firstWith(3, 3, 3, 3), -1);
    }

    private static void firstWithTheLowestNumber() {
        Check.part("promise 33: returns the one with the lowest number");
        BranchedSource x = new BranchedSource();
        for (int value : new int[] {7, 0, 7, 0}) {
            Scenes.commitLine(x, 1, 1, value);
        }
        Check.due("firstWith 7", x.firstWith(4, 1, 1, 7), 1);
        Check.due("firstWith 0", x.firstWith(4, 1, 1, 0), 0);
        Check.due("firstWith 7 of one between", x.firstWith(2, 1, 1, 7), 1);
        Check.due("firstWith of itself alone", x.firstWith(1, 1, 1, 7), 1);
        BranchedSource merged = Scenes.fork();
        merged.merge(0);
        Check.due("by the second parent", merged.firstWith(4, 0, 1, 6), 2);
        Check.due("by the first parent", merged.firstWith(4, 0, 2, 7), 3);
    }

    private static void fullnessFromEmptyToFull() {
        Check.part("promise 34: how many lines are not 0, divided by 24");
        BranchedSource x = new BranchedSource();
        Check.dueFraction("fullness", x.fullness(), 0.0);
        for (int place = 0; place < 24; place++) {
            x.edit(place / 6, place % 6, place == 0 ? 99 : 1);
            Check.dueFraction("fullness", x.fullness(), (place + 1) / 24.0);
        }
        x.commit();
        Check.dueFraction("fullness behind commit", x.fullness(), 1.0);
        x.edit(2, 2, 0);
        Check.dueFraction("fullness of 23", x.fullness(), 23 / 24.0);
        x.reset(0);
        Check.dueFraction("fullness behind reset", x.fullness(), 0.0);
    }
}
