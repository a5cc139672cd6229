/** The edges of promises 1 to 5, and of what the terms say of orders: a test for each sentence. */
public final class PadEdgesTest {
    public static void main(String[] args) {
        newObject();
        leastAndGreatestCharacter();
        characterOutOfRange();
        sixtyCharacters();
        characterOutOfRangeAtFullPad();
        clearPadOfNothingAndOfAll();
        clearPadLeavesTheRest();
        noFaultWhenEmpty();
        faultAtEachPlace();
        numbersOfTwoDigits();
        noBlanks();
        firstFaultCounts();
        ordersNotComplete();
        faultOfFullPad();
        faultLeavesThePad();
        faultAsksForTextAlone();
        runOrdersWithFault();
        runOrdersOfNothing();
        runOrdersStopsAtRefusedOnes();
        runOrdersStopsBehindOthers();
        runOrdersAtGreatestNumbers();
        runOrdersOfFullPad();
        runOrdersLeavesThePad();
        Check.end();
    }

    private static BranchedSource typed(BranchedSource x, String text) {
        Scenes.typeAll(x, text);
        return x;
    }

    private static BranchedSource typed(String text) {
        return typed(new BranchedSource(), text);
    }

    private static String repeated(String order, int times) {
        StringBuilder text = new StringBuilder();
        for (int count = 0; count < times; count++) {
            text.append(order);
        }
        return text.toString();
    }

    private static void newObject() {
        Check.part("promise 1: commit 0 alone, branch 0 alone and current, all lines 0, nothing open, aside, recorded");
        BranchedSource x = new BranchedSource();
        for (int place = 0; place < 24; place++) {
            Check.due("lineOf", x.lineOf(place / 6, place % 6), 0);
            Check.due("lineAt(0, ..)", x.lineAt(0, place / 6, place % 6), 0);
            Check.due("isConflict", x.isConflict(place / 6, place % 6), false);
            Check.due("isChanged", x.isChanged(place / 6, place % 6), false);
        }
        for (int branch = 0; branch < 6; branch++) {
            Check.due("isBranch(" + branch + ")", x.isBranch(branch), branch == 0);
        }
        int[] zeros = {x.standsAt(0), x.current(), x.head(), x.changed(), x.aside(), x.lost(), x.merges(),
            x.allConflicts(), x.conflicts(), x.regions(), x.longestRegion(), x.depth(0)};
        for (int zero : zeros) {
            Check.due("an account of a new object", zero, 0);
        }
        Check.due("commits", x.commits(), 1);
        Check.due("branches", x.branches(), 1);
        Check.due("history(0)", x.history(0), 1);
        Check.due("firstParent(0)", x.firstParent(0), -1);
        Check.due("secondParent(0)", x.secondParent(0), -1);
        Check.due("isMerging", x.isMerging(), false);
        Check.due("isPicking", x.isPicking(), false);
        Check.dueFraction("fullness", x.fullness(), 0.0);
        Check.due("fault", x.fault(), -1);
        Check.dueStateFault("undo", x::undo);
        Check.dueStateFault("goBack", x::goBack);
        Check.due("clearPad", x.clearPad(), 0);
    }

    private static void leastAndGreatestCharacter() {
        Check.part("promise 2: character is 32 to 126");
        for (int character = 32; character <= 126; character++) {
            Check.due("type(" + character + ")", new BranchedSource().type(character), 1);
        }
    }

    private static void characterOutOfRange() {
        Check.part("promise 2: IllegalArgumentException if character is out of range");
        for (int character : Refused.outside(32, 126)) {
            Refused.byArgument("type(" + character + ")", Scenes::marked, x -> x.type(character));
        }
        for (int character : new int[] {0, 31, 9, 10, 13, 256 + 'c', 65536 + 'c', -'c'}) {
            Refused.byArgument("type(" + character + ")", Scenes::marked, x -> x.type(character));
        }
    }

    private static void sixtyCharacters() {
        Check.part("promise 2: IllegalStateException if the pad has 60 characters");
        BranchedSource x = new BranchedSource();
        for (int length = 1; length <= 60; length++) {
            Check.due("type", x.type("0.0=1;".charAt((length - 1) % 6)), length);
        }
        Check.due("the sixtieth belongs to the text", x.runOrders(), 10);
        for (int character : new int[] {32, 'b', ';', 126}) {
            Refused.byState("type on a full pad", () -> typed(Scenes.marked(), repeated("0.0=7;", 10)), y -> y.type(character));
        }
        Check.dueStateFault("type", () -> x.type(';'));
        Check.due("clearPad", x.clearPad(), 60);
        Check.due("there is room again", x.type('b'), 1);
        Check.due("only what is typed since then", x.type(';'), 2);
        Check.due("runOrders", x.runOrders(), 1);
    }

    private static void characterOutOfRangeAtFullPad() {
        Check.part("terms: if both apply, the IllegalArgumentException is thrown (type)");
        for (int character : Refused.outside(32, 126)) {
            Refused.byArgument("type(" + character + ") on a full pad", () -> typed(Scenes.marked(), repeated("b", 60)),
                x -> x.type(character));
        }
    }

    private static void clearPadOfNothingAndOfAll() {
        Check.part("promise 3: returns the length that it had");
        for (int length = 0; length <= 60; length++) {
            BranchedSource x = typed(repeated("c", length));
            Check.due("clearPad", x.clearPad(), length);
            Check.due("clearPad of nothing", x.clearPad(), 0);
            Check.due("fault behind it", x.fault(), -1);
        }
        BranchedSource x = typed(repeated("x", 60));
        Check.dueStateFault("one too many", () -> x.type('x'));
        Check.due("clearPad", x.clearPad(), 60);
    }

    /** The pad is no part of what is recorded: clearing it is no change, and is not undone. */
    private static void clearPadLeavesTheRest() {
        Check.part("promise 3: empties the pad, and that alone");
        for (int way = 0; way < Look.WAYS; way++) {
            BranchedSource x = Scenes.openMerge(Scenes.marked());
            BranchedSource y = Scenes.openMerge(Scenes.marked());
            x.clearPad();
            Scenes.typeAll(y, "");
            Check.dueText("what is behind clearPad", Look.by(way, x), Look.by(way, y));
        }
        BranchedSource x = new BranchedSource();
        x.type('b');
        x.clearPad();
        Check.dueStateFault("clearPad is no change", x::undo);
        x.edit(0, 0, 1);
        x.type('b');
        x.undo();
        Check.due("undo leaves the pad", x.clearPad(), 1);
    }

    private static void noFaultWhenEmpty() {
        Check.part("terms: an empty pad has no fault");
        Check.due("fault", new BranchedSource().fault(), -1);
        BranchedSource x = typed("??");
        x.clearPad();
        Check.due("fault of an emptied pad", x.fault(), -1);
    }

    /** Behind a beginning that is right, each of the 95 characters is either awaited or the fault. */
    private static void faultAtEachPlace() {
        Check.part("promise 4, terms: the orders as they are written");
        String starts = "cbasmpr0123";
        String digits = "0123456789";
        dueAwaited("", starts);
        for (String whole : new String[] {"c;", "b;", "a;", "s0;", "m5;", "p9;", "r59;", "3.5=0;"}) {
            dueAwaited(whole, starts);
        }
        for (String complete : new String[] {"c", "b", "a", "s0", "s5", "m0", "m5", "p0", "r0", "p6", "r9", "p10", "r59",
            "0.0=0", "3.5=10", "2.2=99"}) {
            dueAwaited(complete, ";");
        }
        for (String other : new String[] {"s", "m"}) {
            dueAwaited(other, "012345");
        }
        for (String file : new String[] {"0", "1", "2", "3"}) {
            dueAwaited(file, ".");
            dueAwaited(file + ".", "012345");
        }
        for (String line : new String[] {"0.0", "1.5", "3.3"}) {
            dueAwaited(line, "=");
            dueAwaited(line + "=", digits);
        }
        dueAwaited("p", digits);
        dueAwaited("r", digits);
    }

    private static void dueAwaited(String beginning, String awaited) {
        for (int character = 32; character <= 126; character++) {
            BranchedSource x = typed(beginning);
            x.type(character);
            int length = beginning.length();
            boolean isRight = awaited.indexOf(character) >= 0;
            int want = !isRight ? length : character == ';' ? -1 : length + 1;
            Check.due("fault of '" + beginning + (char) character + "'", x.fault(), want);
        }
    }

    private static void numbersOfTwoDigits() {
        Check.part("terms: a value is 0 to 99, a commit 0 to 59, both without needless zeros ahead");
        for (int number = 0; number <= 120; number++) {
            int valueFault = number <= 99 ? -1 : 6;
            Check.due("fault of 1.1=" + number, typed("1.1=" + number + ";").fault(), valueFault);
            int commitFault = number <= 59 ? -1 : number <= 99 ? 2 : 3;
            Check.due("fault of p" + number, typed("p" + number + ";").fault(), commitFault);
            Check.due("fault of r" + number, typed("r" + number + ";").fault(), commitFault);
            int branchFault = number <= 5 ? -1 : number <= 9 ? 1 : number <= 59 ? 2 : number <= 99 ? 1 : 2;
            Check.due("fault of s" + number, typed("s" + number + ";").fault(), branchFault);
            Check.due("fault of m" + number, typed("m" + number + ";").fault(), branchFault);
        }
        for (int digit = 0; digit <= 9; digit++) {
            Check.due("fault of 1.1=0" + digit, typed("1.1=0" + digit + ";").fault(), 5);
            Check.due("fault of p0" + digit, typed("p0" + digit + ";").fault(), 2);
            Check.due("fault of r0" + digit, typed("r0" + digit + ";").fault(), 2);
            Check.due("fault of s0" + digit, typed("s0" + digit + ";").fault(), 2);
            Check.due("fault of m0" + digit, typed("m0" + digit + ";").fault(), 2);
            Check.due("fault of 0" + digit, typed("0" + digit + ".1=1;").fault(), 1);
            Check.due("fault of 1.0" + digit, typed("1.0" + digit + "=1;").fault(), 3);
        }
    }

    private static void noBlanks() {
        Check.part("terms: there are no blanks");
        String text = "1.2=34;c;s5;p59;";
        for (int place = 0; place <= text.length(); place++) {
            String blank = text.substring(0, place) + " " + text.substring(place);
            Check.due("fault of '" + blank + "'", typed(blank).fault(), place);
        }
    }

    private static void firstFaultCounts() {
        Check.part("terms: the fault is the index of the first character such that no orders begin so");
        Check.due("two faults", typed("c;x;x;").fault(), 2);
        Check.due("a fault, then what would be right", typed("xc;b;").fault(), 0);
        Check.due("a fault, then an end too early", typed("c;s9;c").fault(), 3);
        Check.due("an order too much behind a semicolon", typed("c;;c;").fault(), 2);
        Check.due("no semicolon between", typed("cb;").fault(), 1);
        Check.due("the fault is not the start of its order", typed("c;0.1=100;").fault(), 8);
    }

    private static void ordersNotComplete() {
        Check.part("terms: if the orders are not complete, the fault is the length of the pad");
        for (String order : new String[] {"0.0=0;", "3.5=99;", "c;", "b;", "a;", "s5;", "m0;", "p0;", "p59;", "r6;", "r10;"}) {
            for (String ahead : new String[] {"", "c;", "3.5=99;p59;"}) {
                for (int length = 1; length < order.length(); length++) {
                    String text = ahead + order.substring(0, length);
                    Check.due("fault of '" + text + "'", typed(text).fault(), text.length());
                }
                Check.due("fault of '" + ahead + order + "'", typed(ahead + order).fault(), -1);
            }
        }
    }

    /** Orders may be longer than the pad: what does not end in a full pad has its fault at 60, not before. */
    private static void faultOfFullPad() {
        Check.part("terms: however long such orders are");
        String most = repeated("c;", 29);
        Check.due("a full pad without a fault", typed(most + "b;").fault(), -1);
        for (String end : new String[] {"p1", "0.", "s0", "r0", "1."}) {
            Check.due("a full pad that ends with " + end, typed(most + end).fault(), 60);
        }
        String odd = repeated("c;", 26) + "0.0=10;";
        for (String start : new String[] {"c", "p", "s", "3"}) {
            Check.due("the sixtieth is a beginning", typed(odd + start).fault(), 60);
        }
        for (String wrong : new String[] {"4", ";", " ", "~", "="}) {
            Check.due("the sixtieth is wrong", typed(odd + wrong).fault(), 59);
        }
        Check.due("the whole pad is wrong", typed(repeated(";", 60)).fault(), 0);
    }

    private static void faultLeavesThePad() {
        Check.part("promise 4: fault changes nothing");
        BranchedSource x = typed("c;0.");
        Check.due("fault", x.fault(), 4);
        Check.due("fault again", x.fault(), 4);
        Check.due("type behind it", x.type('1'), 5);
        Check.due("fault", x.fault(), 5);
        for (char character : "=7;".toCharArray()) {
            x.type(character);
        }
        Check.due("fault", x.fault(), -1);
        Check.dueStateFault("fault is no change", x::undo);
    }

    private static void faultAsksForTextAlone() {
        Check.part("promise 4: a commit or a branch that is not there is no fault");
        Check.due("fault", typed("p59;r59;s5;m5;p0;r0;a;c;").fault(), -1);
        Check.due("fault with 60 commits", typed(Scenes.full(), "p60;").fault(), 2);
    }

    private static void runOrdersWithFault() {
        Check.part("promise 5: IllegalStateException if the pad has a fault");
        for (String text : new String[] {"0.0=1;c", "0.0=1;c;;", "x", " ", ";", "0", "b;b;p60;", "b;0.6=1;", "b; ", "c;C;",
            repeated("b;", 29) + "0.", repeated("b;", 26) + "0.0=10;;", repeated("b", 60)}) {
            Refused.byState("runOrders of '" + text + "'", () -> typed(Scenes.marked(), text), x -> x.runOrders());
            Refused.byState("runOrders of '" + text + "' in a merge",
                () -> typed(Scenes.openMerge(Scenes.marked()), text), x -> x.runOrders());
        }
    }

    private static void runOrdersOfNothing() {
        Check.part("promise 5: an empty pad has no orders, but running it is a change");
        BranchedSource x = new BranchedSource();
        Check.due("runOrders", x.runOrders(), 0);
        Check.due("undo", x.undo(), 0);
        BranchedSource y = Scenes.openMerge();
        y.clearPad();
        String before = Look.atNow(y);
        Check.due("runOrders", y.runOrders(), 0);
        Check.dueText("what is behind no orders", Look.atNow(y), before);
    }

    private static void dueStop(String refused, Refused.Scene scene) {
        BranchedSource x = typed(scene.made(), refused + "3.5=98;b;");
        Check.due("runOrders that begin with " + refused, x.runOrders(), 0);
        Check.dueText("behind the refused " + refused, Look.atNow(x), Look.atNow(scene.made()));
    }

    /** Each reason for which the call of an order throws, in the order's own form. */
    private static void runOrdersStopsAtRefusedOnes() {
        Check.part("promise 5: up to the first one by which an exception would be thrown");
        Refused.Scene dirty = () -> {
            BranchedSource x = Scenes.fork();
            x.edit(3, 3, 3);
            return x;
        };
        Refused.Scene merging = () -> Scenes.openMergeClean(new BranchedSource());
        Refused.Scene picking = Scenes::openPick;
        Refused.Scene full = () -> Scenes.apart(new BranchedSource(), 60, false);
        dueStop("c;", BranchedSource::new);
        dueStop("c;", merging);
        dueStop("c;", picking);
        dueStop("b;", () -> Scenes.sixBranches(Scenes.fork(new BranchedSource())));
        dueStop("a;", dirty);
        dueStop("s1;", Scenes::fork);
        dueStop("s2;", Scenes::fork);
        dueStop("s0;", dirty);
        dueStop("s0;", merging);
        dueStop("s0;", picking);
        dueStop("m1;", Scenes::fork);
        dueStop("m2;", Scenes::fork);
        dueStop("m0;", dirty);
        dueStop("m0;", merging);
        dueStop("m0;", picking);
        dueStop("m0;", full);
        for (String kind : new String[] {"p", "r"}) {
            dueStop(kind + "0;", Scenes::fork);
            dueStop(kind + "4;", Scenes::fork);
            dueStop(kind + "59;", Scenes::fork);
            dueStop(kind + "1;", dirty);
            dueStop(kind + "2;", merging);
            dueStop(kind + "3;", picking);
            dueStop(kind + "1;", full);
        }
        dueStop("p3;", Scenes::fork);
        dueStop("r2;", Scenes::fork);
    }

    private static void runOrdersStopsBehindOthers() {
        Check.part("promise 5: returns how many orders are carried out");
        BranchedSource x = typed("0.0=1;c;c;0.0=2;c;");
        Check.due("runOrders", x.runOrders(), 2);
        Check.due("commits", x.commits(), 2);
        Check.due("lineOf", x.lineOf(0, 0), 1);
        Check.due("what was done before is undone with it", x.undo(), 0);
        Check.due("commits", x.commits(), 1);
        BranchedSource branching = typed("b;b;b;b;b;b;3.3=3;");
        Check.due("runOrders", branching.runOrders(), 5);
        Check.due("changed", branching.changed(), 0);
        BranchedSource growing = typed(Scenes.upTo(new BranchedSource(), 59), "0.0=1;c;0.0=2;c;0.0=3;");
        Check.due("runOrders up to 60 commits", growing.runOrders(), 3);
        Check.due("commits", growing.commits(), 60);
        Check.due("lineOf", growing.lineOf(0, 0), 2);
    }

    private static void runOrdersAtGreatestNumbers() {
        Check.part("promise 5, terms: a file is 0 to 3, a line 0 to 5, a branch 0 to 5, a value 0 to 99, a commit 0 to 59");
        BranchedSource x = typed("0.0=99;3.5=99;0.5=10;3.0=9;");
        Check.due("runOrders", x.runOrders(), 4);
        for (int place = 0; place < 24; place++) {
            int want = place == 0 || place == 23 ? 99 : place == 5 ? 10 : place == 18 ? 9 : 0;
            Check.due("line of place " + place, x.lineOf(place / 6, place % 6), want);
        }
        typed(x, "0.0=0;3.5=0;0.5=0;3.0=0;");
        Check.due("runOrders", x.runOrders(), 4);
        Check.due("changed", x.changed(), 0);
        BranchedSource branches = typed(Scenes.sixBranches(new BranchedSource()), "s5;0.0=1;c;s0;m5;");
        Check.due("runOrders", branches.runOrders(), 5);
        Check.due("head", branches.head(), 1);
        BranchedSource commits = Scenes.upTo(new BranchedSource(), 59);
        Check.due("a commit of two digits", Scenes.run(commits, "r58;"), 1);
        Check.due("lineOf", commits.lineOf(0, 0), 57);
        BranchedSource most = Scenes.full();
        most.reset(58);
        most.undo();
        Check.due("p59 is read, and refused", Scenes.run(most, "p59;"), 0);
        Check.due("commits", most.commits(), 60);
    }

    private static void runOrdersOfFullPad() {
        Check.part("promise 5: orders in 60 characters");
        BranchedSource x = new BranchedSource();
        String text = "0.1=1;c;" + repeated("r1;p1;", 8) + "b;b;";
        Check.due("length", text.length(), 60);
        Check.due("runOrders", Scenes.run(x, text), 20);
        Check.due("commits", x.commits(), 18);
        Check.due("branches", x.branches(), 3);
        BranchedSource y = new BranchedSource();
        Check.due("the last order ends with the pad", Scenes.run(y, repeated("0.0=5;", 9) + "2.2=3;"), 10);
        Check.due("lineOf", y.lineOf(2, 2), 3);
    }

    private static void runOrdersLeavesThePad() {
        Check.part("promise 5: the pad does not change");
        BranchedSource x = typed("b;c;");
        Check.due("runOrders", x.runOrders(), 1);
        Check.due("runOrders again", x.runOrders(), 1);
        Check.due("branches", x.branches(), 3);
        Check.due("undo of one", x.undo(), 1);
        Check.due("branches", x.branches(), 2);
        Check.due("runOrders behind an undo", x.runOrders(), 1);
        Check.due("clearPad", x.clearPad(), 4);
    }
}
