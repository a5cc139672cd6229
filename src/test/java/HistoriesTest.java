/** Promises 45 to 52. */
public final class HistoriesTest {
    public static void main(String[] args) {
        promise45();
        promises46and47();
        promise48();
        promise48TakesTheShorterWay();
        promise49();
        promises50and51();
        promise52();
        ranges();
        Check.end();
    }

    private interface OfTwo {
        void ask(int commit, int other);
    }

    private static void promise45() {
        Check.part("promise 45");
        BranchedSource x = Scenes.fork();
        x.merge(0);
        boolean[][] want = {
            {true, false, false, false, false},
            {true, true, false, false, false},
            {true, true, true, false, false},
            {true, true, false, true, false},
            {true, true, true, true, true},
        };
        for (int commit = 0; commit < 5; commit++) {
            for (int other = 0; other < 5; other++) {
                Check.due("reaches(" + commit + ", " + other + ")", x.reaches(commit, other), want[commit][other]);
            }
        }
    }

    private static void promises46and47() {
        Check.part("promises 46, 47");
        BranchedSource x = Scenes.fork();
        Check.due("history(0)", x.history(0), 1);
        Check.due("history(3)", x.history(3), 3);
        Check.due("historyAt(3, 0)", x.historyAt(3, 0), 3);
        Check.due("historyAt(3, 1)", x.historyAt(3, 1), 1);
        Check.due("historyAt(3, 2)", x.historyAt(3, 2), 0);
        Check.due("historyAt(3, 3)", x.historyAt(3, 3), -1);
        Check.due("historyAt(3, highest)", x.historyAt(3, Integer.MAX_VALUE), -1);
        Check.dueArgumentFault("historyAt(3, -1)", () -> x.historyAt(3, -1));
        Check.dueArgumentFault("historyAt(4, 0)", () -> x.historyAt(4, 0));
        Check.dueArgumentFault("historyAt(-1, 0)", () -> x.historyAt(-1, 0));
        x.merge(0);
        Check.due("history(4)", x.history(4), 5);
        for (int place = 0; place < 5; place++) {
            Check.due("historyAt(4, " + place + ")", x.historyAt(4, place), 4 - place);
        }
        Check.due("history(2) behind that of 4", x.history(2), 3);
        Check.due("historyAt(4, 0)", x.historyAt(4, 0), 4);
        Check.due("historyAt(3, 0) behind that of 4", x.historyAt(3, 0), 3);
        Check.due("historyAt(3, 1)", x.historyAt(3, 1), 1);
        Check.due("reaches(4, 2)", x.reaches(4, 2), true);
        Check.due("reaches(3, 2) behind that of 4", x.reaches(3, 2), false);
        BranchedSource full = Scenes.full();
        Check.due("history(59)", full.history(59), 60);
        Check.due("historyAt(59, 59)", full.historyAt(59, 59), 0);
        Check.due("historyAt(59, 60)", full.historyAt(59, 60), -1);
    }

    private static void promise48() {
        Check.part("promise 48");
        BranchedSource x = Scenes.fork();
        x.merge(0);
        Check.due("distance(4, 4)", x.distance(4, 4), 0);
        Check.due("distance(4, 3)", x.distance(4, 3), 1);
        Check.due("distance(4, 2)", x.distance(4, 2), 1);
        Check.due("distance(4, 1)", x.distance(4, 1), 2);
        Check.due("distance(4, 0)", x.distance(4, 0), 3);
        Check.due("distance(0, 4)", x.distance(0, 4), -1);
        Check.due("distance(2, 3)", x.distance(2, 3), -1);
        Check.due("distance(3, 2)", x.distance(3, 2), -1);
        Check.due("sixty commits", Scenes.full().distance(59, 0), 59);
    }

    /** One parent of the merge is four steps above the commit 0, the other one a single step. */
    private static BranchedSource uneven(boolean isLongFirst) {
        BranchedSource x = new BranchedSource();
        x.newBranch();
        for (int k = 1; k <= 4; k++) {
            Scenes.commitLine(x, 0, 0, k);
        }
        x.switchTo(1);
        Scenes.commitLine(x, 1, 0, 9);
        if (isLongFirst) {
            x.switchTo(0);
            x.merge(1);
        } else {
            x.merge(0);
        }
        return x;
    }

    private static void promise48TakesTheShorterWay() {
        Check.part("promises 48, 49");
        for (boolean isLongFirst : new boolean[] {true, false}) {
            BranchedSource x = uneven(isLongFirst);
            Check.due("distance(6, 0)", x.distance(6, 0), 2);
            Check.due("distance(6, 1)", x.distance(6, 1), 4);
            Check.due("distance(6, 5)", x.distance(6, 5), 1);
            Check.due("depth(6)", x.depth(6), 5);
            Check.due("depth(5)", x.depth(5), 1);
            Check.due("depth(4)", x.depth(4), 4);
        }
    }

    private static void promise49() {
        Check.part("promise 49");
        BranchedSource x = Scenes.fork();
        x.merge(0);
        int[] want = {0, 1, 2, 2, 3};
        for (int commit = 0; commit < 5; commit++) {
            Check.due("depth(" + commit + ")", x.depth(commit), want[commit]);
        }
        Check.due("sixty commits", Scenes.full().depth(59), 59);
    }

    private static void dueBase(BranchedSource x, int commit, int other, int want) {
        Check.due("base(" + commit + ", " + other + ")", x.base(commit, other), want);
        Check.due("base(" + other + ", " + commit + ")", x.base(other, commit), want);
        Check.due("baseByMarks(" + commit + ", " + other + ")", x.baseByMarks(commit, other), want);
        Check.due("baseByMarks(" + other + ", " + commit + ")", x.baseByMarks(other, commit), want);
    }

    private static void promises50and51() {
        Check.part("promises 50, 51");
        BranchedSource x = Scenes.fork();
        dueBase(x, 0, 0, 0);
        dueBase(x, 2, 3, 1);
        dueBase(x, 2, 2, 2);
        dueBase(x, 2, 0, 0);
        dueBase(x, 3, 1, 1);
        x.merge(0);
        dueBase(x, 4, 2, 2);
        dueBase(x, 4, 3, 3);
        BranchedSource crossed = Scenes.crossed();
        dueBase(crossed, 1, 2, 0);
        dueBase(crossed, 3, 4, 2);
        dueBase(crossed, 3, 1, 1);
        dueBase(Scenes.full(), 59, 58, 58);
        dueBase(Scenes.full(), 59, 59, 59);
    }

    private static void promise52() {
        Check.part("promise 52");
        BranchedSource x = Scenes.crossed();
        Check.due("bestCommon(3, 4)", x.bestCommon(3, 4), 2);
        Check.due("bestCommon(4, 3)", x.bestCommon(4, 3), 2);
        Check.due("of the last of sixty commits", Scenes.full().bestCommon(59, 59), 1);
        Check.due("bestCommon(1, 2)", x.bestCommon(1, 2), 1);
        Check.due("bestCommon(3, 3)", x.bestCommon(3, 3), 1);
        Check.due("bestCommon(3, 1)", x.bestCommon(3, 1), 1);
        Check.due("bestCommon(0, 4)", x.bestCommon(0, 4), 1);
        Scenes.commitLine(x, 3, 0, 1);
        x.switchTo(0);
        Scenes.commitLine(x, 3, 1, 1);
        Check.due("from above them", x.bestCommon(5, 6), 2);
        x.merge(1);
        Check.due("when they are one", x.bestCommon(7, 6), 1);
        BranchedSource three = new BranchedSource();
        three.newBranch();
        three.newBranch();
        Scenes.commitLine(three, 0, 0, 1);
        three.switchTo(1);
        Scenes.commitLine(three, 0, 1, 1);
        three.switchTo(2);
        Scenes.commitLine(three, 0, 2, 1);
        int[] tips = {three.standsAt(0), three.standsAt(1), three.standsAt(2)};
        int one = allThree(three, tips);
        int other = allThree(three, new int[] {tips[2], tips[1], tips[0]});
        Check.due("three best ones", three.bestCommon(one, other), 3);
    }

    /** Makes, on a new branch, a merge of all three; the current branch is the new one then. */
    private static int allThree(BranchedSource x, int[] tips) {
        int made = x.newBranch();
        x.switchTo(made);
        x.reset(tips[0]);
        for (int place = 1; place < 3; place++) {
            int helper = x.newBranch();
            x.switchTo(helper);
            x.reset(tips[place]);
            x.switchTo(made);
            x.merge(helper);
            x.dropBranch(helper);
        }
        return x.head();
    }

    private static void dueRangesOfTwo(String call, OfTwo tested) {
        tested.ask(3, 0);
        tested.ask(0, 3);
        for (int wrong : new int[] {-1, 4, 60, Integer.MAX_VALUE, Integer.MIN_VALUE}) {
            Check.dueArgumentFault(call + " of " + wrong + " first", () -> tested.ask(wrong, 0));
            Check.dueArgumentFault(call + " of " + wrong + " behind", () -> tested.ask(0, wrong));
        }
    }

    private static void ranges() {
        Check.part("promises 45 to 52");
        BranchedSource x = Scenes.fork();
        dueRangesOfTwo("reaches", x::reaches);
        dueRangesOfTwo("distance", x::distance);
        dueRangesOfTwo("base", x::base);
        dueRangesOfTwo("baseByMarks", x::baseByMarks);
        dueRangesOfTwo("bestCommon", x::bestCommon);
        for (int wrong : new int[] {-1, 4, 60, Integer.MAX_VALUE, Integer.MIN_VALUE}) {
            Check.dueArgumentFault("history of " + wrong, () -> x.history(wrong));
            Check.dueArgumentFault("depth of " + wrong, () -> x.depth(wrong));
        }
    }
}
