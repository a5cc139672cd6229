/** Compares answers with the ones that are due, and counts the wrong ones. */
final class Check {
    /** A call of the class that is tested. */
    interface Call {
        void run();
    }

    private static String part = "";
    private static int wrong = 0;
    private static int told = 0;

    private Check() {
    }

    static void part(String name) {
        part = name;
    }

    static void due(String call, long got, long want) {
        told++;
        if (got != want) {
            tell(call + " answered " + got + ", due is " + want);
        }
    }

    static void due(String call, boolean got, boolean want) {
        due(call, got ? 1 : 0, want ? 1 : 0);
    }

    static void dueFraction(String call, double got, double want) {
        told++;
        if (got != want) {
            tell(call + " answered " + got + ", due is " + want);
        }
    }

    static void dueText(String call, String got, String want) {
        told++;
        if (!got.equals(want)) {
            tell(call + " is\n" + got + "\nand due is\n" + want);
        }
    }

    static void dueArgumentFault(String call, Call tested) {
        dueFault(call, tested, IllegalArgumentException.class);
    }

    static void dueStateFault(String call, Call tested) {
        dueFault(call, tested, IllegalStateException.class);
    }

    private static void dueFault(String call, Call tested, Class<?> want) {
        told++;
        try {
            tested.run();
        } catch (RuntimeException e) {
            if (e.getClass() != want) {
                tell(call + " threw " + e + ", due is " + want.getSimpleName());
            }
            return;
        }
        tell(call + " threw nothing, due is " + want.getSimpleName());
    }

    static void tell(String what) {
        wrong++;
        if (wrong <= 40) {
            System.out.println(part + ": " + what);
        }
    }

    static int wrong() {
        return wrong;
    }

    static void end() {
        System.out.println(told + " answers looked at, " + wrong + " wrong");
        System.exit(wrong == 0 ? 0 : 1);
    }
}
