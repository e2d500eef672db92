import java.math.BigInteger;
import java.util.ArrayList;
import java.util.List;
import java.util.TreeSet;

/** Draws objects as promise 19 tells it; numbers of any length leave no doubt about what an overflow would do. */
final class Drawing {
    /** An object as it should have been drawn. */
    static final class Drawn {
        int number;
        int group;
        int[] slots;
        int roots;
    }

    private static final BigInteger FACTOR = BigInteger.valueOf(1103515245L);
    private static final BigInteger ADDEND = BigInteger.valueOf(12345L);
    private static final BigInteger MODULUS = BigInteger.valueOf(2147483648L);
    private static final BigInteger DIVISOR = BigInteger.valueOf(65536L);

    final List<Drawn> objects = new ArrayList<>();
    private final int[] fields;
    private final TreeSet<Integer> there = new TreeSet<>();
    private BigInteger x;

    /** The fields of the classes, and the numbers of the objects that are there before. */
    Drawing(int start, int count, int[] fields, int... before) {
        this.fields = fields;
        x = BigInteger.valueOf(start);
        for (int number : before) {
            there.add(number);
        }
        for (int made = 0; made < count; made++) {
            objects.add(object());
        }
    }

    private int below(int n) {
        x = x.multiply(FACTOR).add(ADDEND).mod(MODULUS);
        return x.divide(DIVISOR).mod(BigInteger.valueOf(n)).intValueExact();
    }

    private Drawn object() {
        Drawn drawn = new Drawn();
        int kind = below(4);
        drawn.group = kind < 2 ? below(fields.length) : kind == 2 ? 10 : 11;
        drawn.slots = new int[kind < 2 ? fields[drawn.group] : kind == 2 ? below(9) : 1];
        while (there.contains(drawn.number)) {
            drawn.number++;
        }
        there.add(drawn.number);
        for (int slot = 0; slot < drawn.slots.length; slot++) {
            drawn.slots[slot] = below(3) == 0 ? HeapBrowser.NONE : new ArrayList<>(there).get(below(there.size()));
        }
        drawn.roots = below(5) == 0 ? 1 << below(3) : 0;
        return drawn;
    }
}
