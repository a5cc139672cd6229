import java.util.Arrays;

/** The edges of promises 45 to 52: a test for each sentence. */
public final class HistoriesEdgesTest {
    public static void main(String[] args) {
        firstOutOfRange();
        secondOutOfRange();
        commitOutOfRange();
        commitOutOfRangeAtSixty();
        commitThatIsGone();
        oneQuestionBehindAnother();
        reachesItself();
        reachesByBothParents();
        historyFromOneToSixty();
        historyAtBelowZero();
        historyAtBeyondTheLast();
        historyAtInOrder();
        distanceOfTheSame();
        distanceOfWhatIsNotReached();
        distanceByFewestSteps();
        depthFromNoneToMost();
        depthByMostSteps();
        baseOfTheSameAndOfReachedOnes();
        baseIsTheHighest();
        oneBestCommon();
        severalBestCommon();
        netsOfMerges();
        Check.end();
    }

    private interface OfTwo {
        void ask(BranchedSource x, int commit, int other);
    }

    private static final String[] NAMES = {"reaches", "distance", "base", "baseByMarks", "bestCommon"};
    private static final OfTwo[] QUESTIONS = {
        (x, commit, other) -> x.reaches(commit, other),
        (x, commit, other) -> x.distance(commit, other),
        (x, commit, other) -> x.base(commit, other),
        (x, commit, other) -> x.baseByMarks(commit, other),
        (x, commit, other) -> x.bestCommon(commit, other),
    };
    private static final String[] NAMES_OF_ONE = {"history", "depth", "historyAt"};
    private static final OfTwo[] QUESTIONS_OF_ONE = {
        (x, commit, other) -> x.history(commit),
        (x, commit, other) -> x.depth(commit),
        (x, commit, other) -> x.historyAt(commit, 0),
    };

    private static void firstOutOfRange() {
        Check.part("promises 45, 48, 50 to 52: IllegalArgumentException if there is no such commit, the first one");
        for (int kind = 0; kind < QUESTIONS.length; kind++) {
            OfTwo question = QUESTIONS[kind];
            for (int commit : Refused.outside(0, 3)) {
                Refused.byArgument(NAMES[kind] + "(" + commit + ", 0)", () -> Scenes.fork(Scenes.marked()),
                    x -> question.ask(x, commit, 0));
            }
        }
    }

    private static void secondOutOfRange() {
        Check.part("promises 45, 48, 50 to 52: IllegalArgumentException if there is no such commit, the other one");
        for (int kind = 0; kind < QUESTIONS.length; kind++) {
            OfTwo question = QUESTIONS[kind];
            for (int other : Refused.outside(0, 3)) {
                Refused.byArgument(NAMES[kind] + "(3, " + other + ")", () -> Scenes.fork(Scenes.marked()),
                    x -> question.ask(x, 3, other));
                Refused.byArgument(NAMES[kind] + " of it twice", () -> Scenes.fork(Scenes.marked()),
                    x -> question.ask(x, other, other));
            }
        }
    }

    private static void commitOutOfRange() {
        Check.part("promises 46, 47, 49: IllegalArgumentException if there is no such commit");
        for (int kind = 0; kind < QUESTIONS_OF_ONE.length; kind++) {
            OfTwo question = QUESTIONS_OF_ONE[kind];
            for (int commit : Refused.outside(0, 3)) {
                Refused.byArgument(NAMES_OF_ONE[kind] + " of " + commit, () -> Scenes.fork(Scenes.marked()),
                    x -> question.ask(x, commit, 0));
            }
            for (int commit : Refused.outside(0, 0)) {
                Refused.byArgument(NAMES_OF_ONE[kind] + " of " + commit, Scenes::marked, x -> question.ask(x, commit, 0));
            }
        }
    }

    private static void commitOutOfRangeAtSixty() {
        Check.part("promises 45 to 52: the greatest commit is 59");
        BranchedSource x = Scenes.full();
        for (int commit : Refused.outside(0, 59)) {
            for (int kind = 0; kind < QUESTIONS.length; kind++) {
                OfTwo question = QUESTIONS[kind];
                Check.dueArgumentFault(NAMES[kind] + "(" + commit + ", 59)", () -> question.ask(x, commit, 59));
                Check.dueArgumentFault(NAMES[kind] + "(59, " + commit + ")", () -> question.ask(x, 59, commit));
            }
            for (int kind = 0; kind < QUESTIONS_OF_ONE.length; kind++) {
                OfTwo question = QUESTIONS_OF_ONE[kind];
                Check.dueArgumentFault(NAMES_OF_ONE[kind] + " of " + commit, () -> question.ask(x, commit, 0));
            }
        }
        Check.due("reaches(59, 0)", x.reaches(59, 0), true);
        Check.due("reaches(0, 59)", x.reaches(0, 59), false);
        Check.due("base(59, 0)", x.base(59, 0), 0);
        Check.due("baseByMarks(0, 59)", x.baseByMarks(0, 59), 0);
    }

    private static void commitThatIsGone() {
        Check.part("promises 45 to 52: a commit that is undone is no commit");
        BranchedSource x = Scenes.fork();
        x.undo();
        for (int kind = 0; kind < QUESTIONS.length; kind++) {
            OfTwo question = QUESTIONS[kind];
            Check.dueArgumentFault(NAMES[kind] + "(3, 0)", () -> question.ask(x, 3, 0));
            Check.dueArgumentFault(NAMES[kind] + "(0, 3)", () -> question.ask(x, 0, 3));
        }
        for (int kind = 0; kind < QUESTIONS_OF_ONE.length; kind++) {
            OfTwo question = QUESTIONS_OF_ONE[kind];
            Check.dueArgumentFault(NAMES_OF_ONE[kind] + " of 3", () -> question.ask(x, 3, 0));
        }
    }

    /** What a question has marked is no part of the answer of the next one. */
    private static void oneQuestionBehindAnother() {
        Check.part("promises 45 to 52: each question stands alone");
        for (int first = 0; first < QUESTIONS.length + QUESTIONS_OF_ONE.length; first++) {
            BranchedSource x = Scenes.fork();
            x.merge(0);
            askOf(x, first, 4);
            Check.due("history(2)", x.history(2), 3);
            askOf(x, first, 4);
            Check.due("history(0)", x.history(0), 1);
            askOf(x, first, 4);
            Check.due("historyAt(3, 1)", x.historyAt(3, 1), 1);
            askOf(x, first, 4);
            Check.due("historyAt(2, 3)", x.historyAt(2, 3), -1);
            askOf(x, first, 4);
            Check.due("reaches(3, 2)", x.reaches(3, 2), false);
            askOf(x, first, 4);
            Check.due("distance(3, 2)", x.distance(3, 2), -1);
            askOf(x, first, 4);
            Check.due("depth(2)", x.depth(2), 2);
            askOf(x, first, 4);
            dueBase(x, 3, 2, 1);
            askOf(x, first, 4);
            Check.due("bestCommon(2, 3)", x.bestCommon(2, 3), 1);
            askOf(x, first, 4);
            Check.due("firstWith(3, 0, 1, 6)", x.firstWith(3, 0, 1, 6), -1);
            x.dropBranch(0);
            x.reset(3);
            askOf(x, first, 4);
            Check.due("lost", x.lost(), 2);
        }
    }

    private static void askOf(BranchedSource x, int kind, int commit) {
        if (kind < QUESTIONS.length) {
            QUESTIONS[kind].ask(x, commit, commit);
        } else {
            QUESTIONS_OF_ONE[kind - QUESTIONS.length].ask(x, commit, 0);
        }
    }

    private static void reachesItself() {
        Check.part("promise 45: whether a commit reaches another one, or itself");
        BranchedSource x = Scenes.full();
        for (int commit = 0; commit < 60; commit++) {
            Check.due("reaches itself", x.reaches(commit, commit), true);
            Check.due("reaches the commit 0", x.reaches(commit, 0), true);
            Check.due("reaches the last one", x.reaches(commit, 59), commit == 59);
        }
    }

    private static void reachesByBothParents() {
        Check.part("terms: a commit reaches itself, and all that its parents reach");
        BranchedSource x = Scenes.crossed();
        Check.due("by the first parent", x.reaches(4, 2), true);
        Check.due("by the second parent", x.reaches(4, 1), true);
        Check.due("by a parent of the second parent", x.reaches(4, 0), true);
        Check.due("not one beside it", x.reaches(4, 3), false);
        Check.due("not a child", x.reaches(1, 4), false);
        Check.due("not one with a lower number beside it", x.reaches(2, 1), false);
        Check.due("history(4)", x.history(4), 4);
    }

    private static void historyFromOneToSixty() {
        Check.part("promise 46: how many commits a commit reaches, itself among them, from 1 to 60");
        BranchedSource x = Scenes.full();
        for (int commit = 0; commit < 60; commit++) {
            Check.due("history(" + commit + ")", x.history(commit), commit + 1);
        }
        BranchedSource fork = Scenes.fork();
        Check.due("not those beside it", fork.history(3), 3);
        fork.merge(0);
        Check.due("each once, though it is reached twice", fork.history(4), 5);
    }

    private static void historyAtBelowZero() {
        Check.part("promise 47: IllegalArgumentException if place is below 0");
        for (int place : new int[] {-1, -2, -60, Integer.MIN_VALUE}) {
            Refused.byArgument("historyAt(3, " + place + ")", () -> Scenes.fork(Scenes.marked()), x -> x.historyAt(3, place));
            Refused.byArgument("historyAt(4, " + place + ")", () -> Scenes.fork(Scenes.marked()), x -> x.historyAt(4, place));
        }
        Refused.byArgument("historyAt(4, 9)", () -> Scenes.fork(Scenes.marked()), x -> x.historyAt(4, 9));
    }

    private static void historyAtBeyondTheLast() {
        Check.part("promise 47: -1 if there are not so many");
        BranchedSource x = Scenes.full();
        for (int commit : new int[] {0, 1, 30, 58, 59}) {
            Check.due("the last place", x.historyAt(commit, commit), 0);
            for (int place : new int[] {commit + 1, 60, 61, 1000, Integer.MAX_VALUE}) {
                Check.due("historyAt(" + commit + ", " + place + ")", x.historyAt(commit, place), -1);
            }
        }
        Check.due("of a new object", new BranchedSource().historyAt(0, 1), -1);
    }

    private static void historyAtInOrder() {
        Check.part("promise 47: 0 for the one with the highest number, and so on");
        BranchedSource x = Scenes.full();
        for (int place = 0; place < 60; place++) {
            Check.due("historyAt(59, " + place + ")", x.historyAt(59, place), 59 - place);
        }
        BranchedSource fork = Scenes.fork();
        int[] want = {3, 1, 0, -1};
        for (int place = 0; place < 4; place++) {
            Check.due("historyAt(3, " + place + ")", fork.historyAt(3, place), want[place]);
        }
    }

    private static void distanceOfTheSame() {
        Check.part("promise 48: 0 for the same one");
        BranchedSource x = Scenes.full();
        for (int commit = 0; commit < 60; commit++) {
            Check.due("distance of the same", x.distance(commit, commit), 0);
            Check.due("distance to the commit 0", x.distance(commit, 0), commit);
            Check.due("distance from the last one", x.distance(59, commit), 59 - commit);
        }
    }

    private static void distanceOfWhatIsNotReached() {
        Check.part("promise 48: -1 if it is not reached");
        BranchedSource x = Scenes.crossed();
        Check.due("distance(0, 1)", x.distance(0, 1), -1);
        Check.due("distance(1, 2)", x.distance(1, 2), -1);
        Check.due("distance(2, 1)", x.distance(2, 1), -1);
        Check.due("distance(4, 3)", x.distance(4, 3), -1);
        Check.due("distance(3, 4)", x.distance(3, 4), -1);
        Check.due("distance(0, 59)", Scenes.full().distance(0, 59), -1);
    }

    /** A merge of a short way and one of so many steps; the answer does not hang on which parent is the first. */
    private static BranchedSource twoWays(int steps, boolean isLongFirst) {
        BranchedSource x = Scenes.apart(new BranchedSource(), steps + 2, false);
        if (isLongFirst) {
            x.switchTo(0);
            x.merge(1);
        } else {
            x.merge(0);
        }
        return x;
    }

    private static void distanceByFewestSteps() {
        Check.part("promise 48: by how few steps, each from a commit to a parent");
        for (boolean isLongFirst : new boolean[] {true, false}) {
            for (int steps = 1; steps <= 57; steps += 8) {
                BranchedSource x = twoWays(steps, isLongFirst);
                Check.due("to the commit 0", x.distance(x.head(), 0), 2);
                Check.due("to the short way", x.distance(x.head(), 1), 1);
                Check.due("down the long way", x.distance(x.head(), 2), steps);
            }
        }
    }

    private static void depthFromNoneToMost() {
        Check.part("promise 49: from 0 for the commit 0 to 59");
        BranchedSource x = Scenes.full();
        for (int commit = 0; commit < 60; commit++) {
            Check.due("depth(" + commit + ")", x.depth(commit), commit);
        }
        Check.due("of a new object", new BranchedSource().depth(0), 0);
    }

    private static void depthByMostSteps() {
        Check.part("promise 49: by how many steps the commit 0 can be reached at most");
        for (boolean isLongFirst : new boolean[] {true, false}) {
            for (int steps = 1; steps <= 57; steps += 8) {
                BranchedSource x = twoWays(steps, isLongFirst);
                Check.due("depth", x.depth(x.head()), steps + 1);
                Check.due("depth of the short way", x.depth(1), 1);
                Check.due("depth of the long way", x.depth(steps + 1), steps);
            }
        }
    }

    private static void dueBase(BranchedSource x, int commit, int other, int want) {
        Check.due("base(" + commit + ", " + other + ")", x.base(commit, other), want);
        Check.due("base(" + other + ", " + commit + ")", x.base(other, commit), want);
        Check.due("baseByMarks(" + commit + ", " + other + ")", x.baseByMarks(commit, other), want);
        Check.due("baseByMarks(" + other + ", " + commit + ")", x.baseByMarks(other, commit), want);
    }

    private static void baseOfTheSameAndOfReachedOnes() {
        Check.part("promises 50, 51: the base of a commit and itself, and of one that it reaches");
        for (int commit = 0; commit < 60; commit += 59) {
            dueBase(Scenes.full(), commit, commit, commit);
        }
        BranchedSource x = Scenes.full();
        for (int commit = 0; commit < 60; commit += 7) {
            dueBase(x, commit, commit, commit);
            dueBase(x, 59, commit, commit);
            dueBase(x, commit, 0, 0);
        }
        dueBase(new BranchedSource(), 0, 0, 0);
    }

    private static void baseIsTheHighest() {
        Check.part("promises 50, 51, terms: the commit with the highest number of those that both reach");
        BranchedSource x = Scenes.crossed();
        dueBase(x, 3, 4, 2);
        dueBase(x, 1, 2, 0);
        dueBase(x, 1, 4, 1);
        dueBase(x, 2, 3, 2);
        BranchedSource apart = Scenes.apart(new BranchedSource(), 59, false);
        dueBase(apart, 58, 1, 0);
        apart.merge(0);
        dueBase(apart, 59, 58, 58);
        dueBase(apart, 59, 1, 1);
        dueBase(apart, 59, 59, 59);
        BranchedSource low = Scenes.fork();
        Scenes.commitLine(low, 1, 1, 1);
        Scenes.commitLine(low, 1, 1, 2);
        dueBase(low, 5, 2, 1);
        dueBase(low, 5, 4, 4);
    }

    private static void oneBestCommon() {
        Check.part("promise 52: one best common commit");
        BranchedSource x = Scenes.full();
        for (int commit = 0; commit < 60; commit += 59) {
            Check.due("of the same", x.bestCommon(commit, commit), 1);
            Check.due("with the commit 0", x.bestCommon(commit, 0), 1);
            Check.due("with the last one", x.bestCommon(59, commit), 1);
        }
        Check.due("of a fork", Scenes.fork().bestCommon(2, 3), 1);
        BranchedSource crossed = Scenes.crossed();
        Check.due("one that reaches both", crossed.bestCommon(3, 1), 1);
        Check.due("a common one that a common one reaches is no best one", crossed.bestCommon(3, 3), 1);
        BranchedSource merged = Scenes.fork();
        merged.merge(0);
        Scenes.commitLine(merged, 1, 1, 1);
        Check.due("above a merge", merged.bestCommon(5, 4), 1);
    }

    private static void severalBestCommon() {
        Check.part("promise 52, terms: there can be several best ones");
        BranchedSource x = Scenes.crossed();
        Check.due("bestCommon(3, 4)", x.bestCommon(3, 4), 2);
        Check.due("bestCommon(4, 3)", x.bestCommon(4, 3), 2);
        Scenes.commitLine(x, 1, 1, 1);
        x.switchTo(0);
        Scenes.commitLine(x, 1, 2, 1);
        Check.due("from above", x.bestCommon(5, 6), 2);
        x.merge(1);
        Check.due("a merge of both reaches them all", x.bestCommon(7, 5), 1);
        BranchedSource deep = Scenes.crossedAbove(4);
        Check.due("two best ones above four commits", deep.bestCommon(7, 8), 2);
        Check.due("the base is the higher one", deep.base(7, 8), 6);
    }

    /** A net of commits and merges on three branches; each commit sets a line of its own, so nothing is in conflict. */
    private static BranchedSource net(int kind) {
        BranchedSource x = new BranchedSource();
        x.newBranch();
        x.newBranch();
        for (int place = 0; place < 12; place++) {
            int branch = (place * (kind + 1) + place / 4) % 3;
            if (x.current() != branch) {
                x.switchTo(branch);
            }
            Scenes.commitLine(x, place / 6, place % 6, 1 + place);
            int other = (branch + 1 + (place + kind) % 2) % 3;
            if ((place + kind) % 3 != 0 && !x.reaches(x.head(), x.standsAt(other))) {
                cross(x, other, (place + kind) % 2 == 0);
            }
        }
        return x;
    }

    /** Merges the other branch and, if wanted, into the other one what stood here before: both have two best common ones. */
    private static void cross(BranchedSource x, int other, boolean isBothWays) {
        int before = x.newBranch();
        x.merge(other);
        if (isBothWays && !x.reaches(x.standsAt(other), x.standsAt(before))) {
            x.switchTo(other);
            x.merge(before);
        }
        x.dropBranch(before);
    }

    /** What the terms say, told from the parents alone in the plainest way. */
    private static void netsOfMerges() {
        Check.part("promises 45 to 52: nets of merges, told from their parents");
        for (int kind = 0; kind < 6; kind++) {
            BranchedSource shape = net(kind);
            int count = shape.commits();
            int[][] steps = new int[count][count];
            int[] depths = new int[count];
            for (int commit = 0; commit < count; commit++) {
                tellSteps(shape, commit, steps[commit], depths, steps);
            }
            for (int commit = 0; commit < count; commit++) {
                BranchedSource x = net(kind);
                for (int other = 0; other < count; other++) {
                    Check.due("distance(" + commit + ", " + other + ")", x.distance(commit, other), steps[commit][other]);
                    Check.due("reaches(" + commit + ", " + other + ")", x.reaches(commit, other), steps[commit][other] >= 0);
                    dueBase(x, commit, other, highestCommon(steps[commit], steps[other]));
                    Check.due("bestCommon(" + commit + ", " + other + ")", x.bestCommon(commit, other),
                        countBest(steps[commit], steps[other], steps));
                }
                Check.due("depth(" + commit + ")", x.depth(commit), depths[commit]);
                dueHistory(x, commit, steps[commit]);
            }
        }
    }

    /** Parents have lower numbers, so what is told of them is there already; -1 stands for what is not reached. */
    private static void tellSteps(BranchedSource x, int commit, int[] row, int[] depths, int[][] steps) {
        Arrays.fill(row, -1);
        row[commit] = 0;
        for (int parent : new int[] {x.firstParent(commit), x.secondParent(commit)}) {
            if (parent < 0) {
                continue;
            }
            depths[commit] = Math.max(depths[commit], depths[parent] + 1);
            for (int other = 0; other < commit; other++) {
                int way = steps[parent][other] + 1;
                if (way > 0 && (row[other] < 0 || way < row[other])) {
                    row[other] = way;
                }
            }
        }
    }

    private static int highestCommon(int[] one, int[] other) {
        int highest = -1;
        for (int commit = 0; commit < one.length; commit++) {
            if (one[commit] >= 0 && other[commit] >= 0) {
                highest = commit;
            }
        }
        return highest;
    }

    private static int countBest(int[] one, int[] other, int[][] steps) {
        int count = 0;
        for (int commit = 0; commit < one.length; commit++) {
            boolean isBest = one[commit] >= 0 && other[commit] >= 0;
            for (int above = commit + 1; above < one.length; above++) {
                isBest = isBest && !(one[above] >= 0 && other[above] >= 0 && steps[above][commit] >= 0);
            }
            count += isBest ? 1 : 0;
        }
        return count;
    }

    private static void dueHistory(BranchedSource x, int commit, int[] row) {
        int place = 0;
        for (int other = commit; other >= 0; other--) {
            if (row[other] >= 0) {
                Check.due("historyAt(" + commit + ", " + place + ")", x.historyAt(commit, place), other);
                place++;
            }
        }
        Check.due("historyAt(" + commit + ", " + place + ")", x.historyAt(commit, place), -1);
        Check.due("history(" + commit + ")", x.history(commit), place);
    }
}
