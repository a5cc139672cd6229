/** Promises 35 to 44. */
public final class CommitsTest {
    public static void main(String[] args) {
        promises35to37();
        promises38to40();
        promises41and42();
        promise43();
        promise44();
        Check.end();
    }

    private static void promises35to37() {
        Check.part("promises 35 to 37");
        BranchedSource x = Scenes.fork();
        Check.due("commits", x.commits(), 4);
        x.merge(0);
        Check.due("commits", x.commits(), 5);
        int[] first = {-1, 0, 1, 1, 3};
        int[] second = {-1, -1, -1, -1, 2};
        for (int commit = 0; commit < 5; commit++) {
            Check.due("firstParent of " + commit, x.firstParent(commit), first[commit]);
            Check.due("secondParent of " + commit, x.secondParent(commit), second[commit]);
        }
        for (int wrong : new int[] {-1, 5, Integer.MAX_VALUE, Integer.MIN_VALUE}) {
            Check.dueArgumentFault("firstParent of " + wrong, () -> x.firstParent(wrong));
            Check.dueArgumentFault("secondParent of " + wrong, () -> x.secondParent(wrong));
        }
        x.reset(0);
        Check.due("commits stay", x.commits(), 5);
    }

    private static void promises38to40() {
        Check.part("promises 38 to 40");
        BranchedSource x = Scenes.fork();
        Check.due("branches", x.branches(), 2);
        x.newBranch();
        Check.due("branches", x.branches(), 3);
        x.dropBranch(0);
        Check.due("branches", x.branches(), 2);
        boolean[] there = {false, true, true, false, false, false};
        for (int branch = 0; branch < 6; branch++) {
            int asked = branch;
            Check.due("isBranch of " + branch, x.isBranch(branch), there[branch]);
            if (there[branch]) {
                Check.due("standsAt of " + branch, x.standsAt(branch), 3);
            } else {
                Check.dueStateFault("standsAt of " + branch, () -> x.standsAt(asked));
            }
        }
        for (int wrong : new int[] {-1, 6, Integer.MAX_VALUE, Integer.MIN_VALUE}) {
            Check.dueArgumentFault("isBranch of " + wrong, () -> x.isBranch(wrong));
            Check.dueArgumentFault("standsAt of " + wrong, () -> x.standsAt(wrong));
        }
    }

    private static void promises41and42() {
        Check.part("promises 41, 42");
        BranchedSource x = Scenes.fork();
        Check.due("current", x.current(), 1);
        Check.due("head", x.head(), 3);
        x.switchTo(0);
        Check.due("current", x.current(), 0);
        Check.due("head", x.head(), 2);
        x.reset(0);
        Check.due("head", x.head(), 0);
    }

    private static void promise43() {
        Check.part("promise 43");
        BranchedSource x = new BranchedSource();
        Check.due("aside", x.aside(), 0);
        x.edit(0, 0, 1);
        x.putAside();
        Check.due("aside", x.aside(), 1);
        x.edit(0, 0, 1);
        x.putAside();
        Check.due("aside", x.aside(), 2);
        x.takeBack();
        Check.due("aside", x.aside(), 1);
        x.reset(0);
        Check.due("aside", x.aside(), 1);
    }

    private static void promise44() {
        Check.part("promise 44");
        BranchedSource x = Scenes.fork();
        Check.due("lost", x.lost(), 0);
        x.dropBranch(0);
        Check.due("lost", x.lost(), 1);
        x.reset(0);
        Check.due("lost", x.lost(), 3);
        x.reset(2);
        Check.due("lost", x.lost(), 1);
        BranchedSource merged = Scenes.fork();
        merged.merge(0);
        merged.dropBranch(0);
        Check.due("reached by a second parent", merged.lost(), 0);
        merged.newBranch();
        merged.reset(0);
        Check.due("reached by another branch", merged.lost(), 0);
    }
}
