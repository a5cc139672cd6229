/** Promises 27 to 34. */
public final class LinesTest {
    public static void main(String[] args) {
        promise27();
        promise28and29();
        promise30();
        promise31();
        promise32();
        promise33();
        promise34();
        Check.end();
    }

    private interface OfLine {
        void ask(int file, int line);
    }

    private static void dueRangesOfLine(String call, OfLine tested) {
        for (int wrong : new int[] {-1, 6, Integer.MAX_VALUE, Integer.MIN_VALUE}) {
            Check.dueArgumentFault(call + " of file " + wrong, () -> tested.ask(wrong, 0));
            Check.dueArgumentFault(call + " of line " + wrong, () -> tested.ask(0, wrong));
        }
        Check.dueArgumentFault(call + " of file 4", () -> tested.ask(4, 0));
        tested.ask(3, 5);
        tested.ask(0, 0);
    }

    private static void promise27() {
        Check.part("promise 27");
        BranchedSource x = new BranchedSource();
        for (int place = 0; place < 24; place++) {
            x.edit(place / 6, place % 6, place + 1);
        }
        for (int place = 0; place < 24; place++) {
            Check.due("lineOf of place " + place, x.lineOf(place / 6, place % 6), place + 1);
        }
        dueRangesOfLine("lineOf", x::lineOf);
    }

    private static void promise28and29() {
        Check.part("promises 28, 29");
        BranchedSource x = new BranchedSource();
        Scenes.commitLine(x, 2, 3, 4);
        Check.due("isChanged in a clean tree", x.isChanged(2, 3), false);
        x.edit(2, 3, 0);
        x.edit(2, 4, 1);
        Check.due("isChanged(2, 3)", x.isChanged(2, 3), true);
        Check.due("isChanged(2, 4)", x.isChanged(2, 4), true);
        Check.due("isChanged(2, 5)", x.isChanged(2, 5), false);
        Check.due("changed", x.changed(), 2);
        x.edit(2, 3, 4);
        Check.due("isChanged of what is edited back", x.isChanged(2, 3), false);
        Check.due("changed", x.changed(), 1);
        dueRangesOfLine("isChanged", x::isChanged);
    }

    private static void promise30() {
        Check.part("promise 30");
        BranchedSource x = new BranchedSource();
        for (int place = 0; place < 24; place++) {
            x.edit(place / 6, place % 6, place + 1);
        }
        x.commit();
        x.edit(3, 5, 99);
        x.commit();
        for (int place = 0; place < 24; place++) {
            Check.due("lineAt 0", x.lineAt(0, place / 6, place % 6), 0);
            Check.due("lineAt 1", x.lineAt(1, place / 6, place % 6), place + 1);
            Check.due("lineAt 2", x.lineAt(2, place / 6, place % 6), place == 23 ? 99 : place + 1);
        }
        Check.dueArgumentFault("lineAt(3, ..)", () -> x.lineAt(3, 0, 0));
        Check.dueArgumentFault("lineAt(-1, ..)", () -> x.lineAt(-1, 0, 0));
        dueRangesOfLine("lineAt", (file, line) -> x.lineAt(1, file, line));
    }

    private static void promise31() {
        Check.part("promise 31");
        BranchedSource x = Scenes.fork();
        Check.due("differences(0, 0)", x.differences(0, 0), 0);
        Check.due("differences(0, 1)", x.differences(0, 1), 1);
        Check.due("differences(2, 3)", x.differences(2, 3), 2);
        Check.due("differences(3, 2)", x.differences(3, 2), 2);
        Check.due("differences(3, 0)", x.differences(3, 0), 2);
        for (int place = 0; place < 24; place++) {
            x.edit(place / 6, place % 6, 50);
        }
        x.commit();
        Check.due("differences(4, 0)", x.differences(4, 0), 24);
        Check.dueArgumentFault("differences(0, 5)", () -> x.differences(0, 5));
        Check.dueArgumentFault("differences(5, 0)", () -> x.differences(5, 0));
        Check.dueArgumentFault("differences(-1, 0)", () -> x.differences(-1, 0));
        Check.dueArgumentFault("differences(0, -1)", () -> x.differences(0, -1));
    }

    private static void promise32() {
        Check.part("promise 32");
        BranchedSource x = Scenes.fork();
        x.merge(0);
        Check.due("by the first parent of a merge", x.broughtBy(4, 0, 2), 3);
        Check.due("by the second parent of a merge", x.broughtBy(4, 0, 1), 2);
        Check.due("by both: goes by the first", x.broughtBy(4, 0, 0), 1);
        Check.due("by the commit 0", x.broughtBy(4, 3, 3), 0);
        Check.due("by itself", x.broughtBy(2, 0, 1), 2);
        Check.due("of the commit 0", x.broughtBy(0, 0, 0), 0);
        Scenes.commitLine(x, 0, 0, 1);
        Scenes.commitLine(x, 0, 0, 5);
        Check.due("brought anew", x.broughtBy(6, 0, 0), 6);
        Check.due("of the one between", x.broughtBy(5, 0, 0), 5);
        Check.dueArgumentFault("broughtBy(7, ..)", () -> x.broughtBy(7, 0, 0));
        Check.dueArgumentFault("broughtBy(-1, ..)", () -> x.broughtBy(-1, 0, 0));
        dueRangesOfLine("broughtBy", (file, line) -> x.broughtBy(1, file, line));
        BranchedSource both = new BranchedSource();
        both.newBranch();
        Scenes.commitLine(both, 0, 0, 5);
        both.switchTo(1);
        Scenes.commitLine(both, 0, 0, 5);
        both.merge(0);
        Check.due("the same line by both parents: the first one", both.broughtBy(3, 0, 0), 2);
        BranchedSource neither = Scenes.openMerge();
        neither.resolve(1, 0, true);
        neither.resolve(1, 1, false);
        neither.edit(1, 3, 50);
        neither.edit(2, 0, 0);
        neither.commit();
        Check.due("theirs", neither.broughtBy(3, 1, 0), 1);
        Check.due("ours", neither.broughtBy(3, 1, 1), 2);
        Check.due("by neither parent of a merge", neither.broughtBy(3, 1, 3), 3);
        Check.due("by neither parent of a merge, though by the commit 0", neither.broughtBy(3, 2, 0), 3);
        BranchedSource full = Scenes.full();
        Check.due("down sixty commits", full.broughtBy(59, 1, 1), 0);
    }

    private static void promise33() {
        Check.part("promise 33");
        BranchedSource x = Scenes.fork();
        Check.due("firstWith(3, 0, 0, 5)", x.firstWith(3, 0, 0, 5), 1);
        Check.due("firstWith(3, 0, 0, 0)", x.firstWith(3, 0, 0, 0), 0);
        Check.due("firstWith(3, 0, 2, 7)", x.firstWith(3, 0, 2, 7), 3);
        Check.due("firstWith(2, 0, 2, 7)", x.firstWith(2, 0, 2, 7), -1);
        Check.due("firstWith(0, 0, 0, 5)", x.firstWith(0, 0, 0, 5), -1);
        Check.due("a commit that is not reached", x.firstWith(3, 0, 1, 6), -1);
        Check.due("no such value", x.firstWith(3, 0, 0, 6), -1);
        Check.due("value -1", x.firstWith(3, 0, 0, -1), -1);
        Check.due("value 1000", x.firstWith(3, 0, 0, 1000), -1);
        Check.due("lowest value", x.firstWith(3, 0, 0, Integer.MIN_VALUE), -1);
        x.merge(0);
        Check.due("by the second parent", x.firstWith(4, 0, 1, 6), 2);
        Check.dueArgumentFault("firstWith(5, ..)", () -> x.firstWith(5, 0, 0, 0));
        Check.dueArgumentFault("firstWith(-1, ..)", () -> x.firstWith(-1, 0, 0, 0));
        dueRangesOfLine("firstWith", (file, line) -> x.firstWith(1, file, line, 0));
    }

    private static void promise34() {
        Check.part("promise 34");
        BranchedSource x = new BranchedSource();
        Check.dueFraction("fullness", x.fullness(), 0.0);
        for (int place = 0; place < 24; place++) {
            x.edit(place / 6, place % 6, 1 + place);
            Check.dueFraction("fullness", x.fullness(), (place + 1) / 24.0);
        }
        x.edit(1, 1, 0);
        Check.dueFraction("fullness", x.fullness(), 23 / 24.0);
        x.reset(0);
        Check.dueFraction("fullness", x.fullness(), 0.0);
    }
}
