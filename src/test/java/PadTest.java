/** Promises 1 to 5. */
public final class PadTest {
    public static void main(String[] args) {
        promise1();
        promise2();
        promise3();
        promise4();
        promise4EveryPrefix();
        promise5();
        promise5Stops();
        promise5EveryOrder();
        Check.end();
    }

    private static void promise1() {
        Check.part("promise 1");
        BranchedSource x = new BranchedSource();
        Check.due("commits", x.commits(), 1);
        Check.due("branches", x.branches(), 1);
        Check.due("isBranch(0)", x.isBranch(0), true);
        Check.due("isBranch(1)", x.isBranch(1), false);
        Check.due("standsAt(0)", x.standsAt(0), 0);
        Check.due("current", x.current(), 0);
        Check.due("head", x.head(), 0);
        Check.due("changed", x.changed(), 0);
        for (int place = 0; place < 24; place++) {
            Check.due("lineOf", x.lineOf(place / 6, place % 6), 0);
            Check.due("lineAt", x.lineAt(0, place / 6, place % 6), 0);
        }
        Check.due("conflicts", x.conflicts(), 0);
        Check.due("isMerging", x.isMerging(), false);
        Check.due("isPicking", x.isPicking(), false);
        Check.due("aside", x.aside(), 0);
        Check.due("merges", x.merges(), 0);
        Check.due("allConflicts", x.allConflicts(), 0);
        Check.due("clearPad", x.clearPad(), 0);
    }

    private static void promise2() {
        Check.part("promise 2");
        BranchedSource x = new BranchedSource();
        Check.due("type(32)", x.type(32), 1);
        Check.due("type(126)", x.type(126), 2);
        Check.dueArgumentFault("type(31)", () -> x.type(31));
        Check.dueArgumentFault("type(127)", () -> x.type(127));
        Check.dueArgumentFault("type(lowest)", () -> x.type(Integer.MIN_VALUE));
        for (int length = 3; length <= 60; length++) {
            Check.due("type(99)", x.type(99), length);
        }
        Check.dueStateFault("type on a full pad", () -> x.type(99));
        Check.dueArgumentFault("type(127) on a full pad", () -> x.type(127));
        Check.due("clearPad", x.clearPad(), 60);
        Check.due("type after it", x.type(99), 1);
    }

    private static void promise3() {
        Check.part("promise 3");
        BranchedSource x = new BranchedSource();
        Scenes.typeAll(x, "zzz");
        Check.due("clearPad", x.clearPad(), 3);
        Check.due("clearPad again", x.clearPad(), 0);
        Check.due("fault", x.fault(), -1);
        Check.dueStateFault("undo", x::undo);
    }

    private static void dueFaultOf(String text, int want) {
        BranchedSource x = new BranchedSource();
        Scenes.typeAll(x, text);
        Check.due("fault of '" + text + "'", x.fault(), want);
        if (want >= 0) {
            Check.dueStateFault("runOrders of '" + text + "'", x::runOrders);
            Check.dueStateFault("undo", x::undo);
        }
    }

    private static void promise4() {
        Check.part("promise 4");
        dueFaultOf("", -1);
        dueFaultOf("c;b;a;s0;m5;p59;r0;0.0=0;3.5=99;", -1);
        dueFaultOf(" ", 0);
        dueFaultOf(";", 0);
        dueFaultOf("d", 0);
        dueFaultOf("C;", 0);
        dueFaultOf("4.0=1;", 0);
        dueFaultOf("c;;", 2);
        dueFaultOf("c; b;", 2);
        dueFaultOf("c1;", 1);
        dueFaultOf("0;", 1);
        dueFaultOf("0.6=1;", 2);
        dueFaultOf("0.5:1;", 3);
        dueFaultOf("0.5=;", 4);
        dueFaultOf("0.5=00;", 5);
        dueFaultOf("0.5=01;", 5);
        dueFaultOf("0.5=100;", 6);
        dueFaultOf("s;", 1);
        dueFaultOf("s6;", 1);
        dueFaultOf("s00;", 2);
        dueFaultOf("m6;", 1);
        dueFaultOf("m12;", 2);
        dueFaultOf("p60;", 2);
        dueFaultOf("p600;", 2);
        dueFaultOf("p6;", -1);
        dueFaultOf("p9;", -1);
        dueFaultOf("p5;", -1);
        dueFaultOf("p00;", 2);
        dueFaultOf("p;", 1);
        dueFaultOf("r599;", 3);
        dueFaultOf("r7;r70;", 5);
        dueFaultOf("c;c", 3);
        dueFaultOf("c;0.1=9", 7);
    }

    /** An order that breaks off has its fault at its end, whatever its length. */
    private static void promise4EveryPrefix() {
        Check.part("promise 4");
        for (String order : new String[] {"2.3=45;", "c;", "b;", "a;", "s4;", "m3;", "p28;", "r10;"}) {
            for (int length = 1; length < order.length(); length++) {
                dueFaultOf(order.substring(0, length), length);
                dueFaultOf("b;" + order.substring(0, length), length + 2);
            }
            dueFaultOf(order, -1);
        }
    }

    private static void promise5() {
        Check.part("promise 5");
        BranchedSource x = new BranchedSource();
        Check.due("runOrders of nothing", x.runOrders(), 0);
        Check.due("undo of it", x.undo(), 0);
        Check.due("ten orders", Scenes.run(x, "0.0=5;c;b;s1;0.0=6;c;s0;0.1=7;c;m1;"), 10);
        Check.due("head", x.head(), 4);
        Check.due("merges", x.merges(), 1);
        Check.due("lineOf(0, 0)", x.lineOf(0, 0), 6);
        Check.due("lineOf(0, 1)", x.lineOf(0, 1), 7);
        Check.due("the pad stays", x.clearPad(), 35);
        Check.due("all of it is one change", x.undo(), 0);
        Check.due("commits", x.commits(), 1);
        Check.due("branches", x.branches(), 1);
    }

    private static void promise5Stops() {
        Check.part("promise 5");
        BranchedSource x = new BranchedSource();
        Check.due("first order fails", Scenes.run(x, "c;0.0=1;"), 0);
        Check.due("nothing done", x.changed(), 0);
        Check.due("it is a change", x.undo(), 0);
        Check.due("stops at p1", Scenes.run(x, "3.5=99;p1;c;"), 1);
        Check.due("lineOf(3, 5)", x.lineOf(3, 5), 99);
        Check.due("commits", x.commits(), 1);
        Check.due("stops at s0", Scenes.run(x, "c;s0;1.1=1;"), 1);
        Check.due("stops at m5", Scenes.run(x, "b;m5;1.1=1;"), 1);
        Check.due("stops at r0", Scenes.run(x, "b;r0;1.1=1;"), 1);
        Check.due("stops at a", Scenes.run(x, "b;a;1.1=1;"), 1);
        Check.due("stops at b", Scenes.run(x, "b;b;b;1.1=1;"), 2);
        Check.due("branches", x.branches(), 6);
        Check.due("changed", x.changed(), 0);
        Scenes.typeAll(x, "1.1=1;c");
        Check.dueStateFault("a fault behind a whole order", x::runOrders);
        Check.due("nothing done", x.changed(), 0);
    }

    private static void promise5EveryOrder() {
        Check.part("promise 5");
        BranchedSource x = new BranchedSource();
        Check.due("edit, commit", Scenes.run(x, "2.4=10;c;2.4=20;c;"), 4);
        Check.due("lineAt(1, 2, 4)", x.lineAt(1, 2, 4), 10);
        Check.due("lineAt(2, 2, 4)", x.lineAt(2, 2, 4), 20);
        Check.due("revert", Scenes.run(x, "r2;"), 1);
        Check.due("lineOf(2, 4)", x.lineOf(2, 4), 10);
        Check.due("pick", Scenes.run(x, "p2;"), 1);
        Check.due("lineOf(2, 4)", x.lineOf(2, 4), 20);
        Check.due("a pick with a conflict is carried out", Scenes.run(x, "r1;"), 1);
        Check.due("isPicking", x.isPicking(), true);
        Check.due("abort", Scenes.run(x, "a;"), 1);
        Check.due("isPicking", x.isPicking(), false);
        Check.due("newBranch, switchTo", Scenes.run(x, "b;s1;"), 2);
        Check.due("current", x.current(), 1);
        Check.due("merge", Scenes.run(x, "0.0=1;c;s0;m1;"), 4);
        Check.due("head", x.head(), 5);
        BranchedSource many = new BranchedSource();
        StringBuilder sixty = new StringBuilder();
        for (int order = 0; order < 10; order++) {
            sixty.append("0.0=").append(order % 2 + 1).append(";");
        }
        Check.due("a pick of no commit", Scenes.run(x, "p40;"), 0);
        Check.due("a revert of no commit", Scenes.run(x, "r6;"), 0);
        Check.due("a revert before it", Scenes.run(x, "r5;p5;p0;"), 2);
        Check.due("a pick of the commit 0", Scenes.run(x, "p0;"), 0);
        Check.due("a revert of the commit 0", Scenes.run(x, "r5;r0;"), 1);
        Check.due("a full pad", Scenes.run(many, sixty.toString()), 10);
        Check.due("many commits", Scenes.run(many, "c;"), 1);
        Check.due("a long row of short orders", Scenes.run(many, "0.0=9;c;r2;p2;r2;p2;r2;p2;r2;p2;r2;p2;r2;p2;r2;p2;r2;p2;r2;"), 19);
        Check.due("commits", many.commits(), 20);
    }
}
