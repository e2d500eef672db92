/** What all tests of sentences share: short names for the exceptions, and numbers that lie outside a range. */
abstract class Boundaries {
    static final int NONE = HeapBrowser.NONE;
    static final Class<?> INDEX = IndexOutOfBoundsException.class;
    static final Class<?> ARGUMENT = IllegalArgumentException.class;
    static final Class<?> STATE = IllegalStateException.class;

    /** The neighbours of a range, the ends of int, and numbers that a shift or a mask would bring back into the range. */
    static int[] outside(int low, int high) {
        return new int[] {low - 1, high + 1, low - 2, high + 64, high + 256, low - 64, low - 256,
            Integer.MIN_VALUE, Integer.MIN_VALUE + low, Integer.MAX_VALUE};
    }

    static int[] numbers(int... numbers) {
        return numbers;
    }

    static String times(int count, String part) {
        return part.repeat(count);
    }

    static void noSuchObject(Pair x, Pair.OnNumber call) {
        for (int object : outside(0, 39)) {
            x.refused(INDEX, h -> call.on(h, object));
        }
    }

    /** A number that is free, the last one, which is free too, and those that no object can have. */
    static void noSuchObject(Pair x, int free, Pair.OnNumber call) {
        x.refused(INDEX, h -> call.on(h, free));
        x.refused(INDEX, h -> call.on(h, 39));
        noSuchObject(x, call);
    }

    /** Arrays of length 1, each of which refers to the next one; the first one is a root. */
    static void chain(Pair x, int count) {
        x.arrays(count, 1);
        for (int object = 0; object + 1 < count; object++) {
            x.refers(object, object + 1);
        }
        x.roots(0);
    }
}
