import java.util.Arrays;

/** Looks whether a call is refused as it is due, and whether all is behind it as it was. */
final class Refused {
    /** Makes an object; each time the same. */
    interface Scene {
        BranchedSource made();
    }

    /** A call of that object. */
    interface Tested {
        void of(BranchedSource x);
    }

    private static final int[] FAR = {
        Integer.MIN_VALUE, Integer.MAX_VALUE, -2, -6, -24, -256, -65536, 127, 128, 255, 256, 1000, 65536, 1 << 16 | 1, 1 << 24,
    };

    private Refused() {
    }

    static void byArgument(String call, Scene scene, Tested tested) {
        look(call, scene, tested, true);
    }

    static void byState(String call, Scene scene, Tested tested) {
        look(call, scene, tested, false);
    }

    private static void look(String call, Scene scene, Tested tested, boolean isByArgument) {
        for (int way = 0; way < Look.WAYS; way++) {
            BranchedSource x = scene.made();
            if (isByArgument) {
                Check.dueArgumentFault(call, () -> tested.of(x));
            } else {
                Check.dueStateFault(call, () -> tested.of(x));
            }
            Check.dueText("what is behind the refused " + call, Look.by(way, x), Look.by(way, scene.made()));
        }
    }

    /** The numbers next to a range, and others far from it: all below the least or above the greatest. */
    static int[] outside(int least, int greatest) {
        int[] numbers = new int[FAR.length + 2];
        int count = 0;
        numbers[count++] = least - 1;
        numbers[count++] = greatest + 1;
        for (int far : FAR) {
            if (far < least - 1 || far > greatest + 1) {
                numbers[count++] = far;
            }
        }
        return Arrays.copyOf(numbers, count);
    }
}
