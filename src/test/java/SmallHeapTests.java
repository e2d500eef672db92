import java.util.ArrayList;
import java.util.Arrays;
import java.util.List;

/**
 * Builds every heap of three arrays, with any references among them and any roots, and looks whether the answers follow
 * from the list of all paths in which no object stands twice (a path with one twice contains such a path).
 */
public final class SmallHeapTests {
    private static final int OBJECTS = 3;
    private static final int[] LENGTHS = {4, 5, 6};
    // Two are alike, so that the order of equal ones shows.
    private static final int[] SIZES = {32, 40, 40};
    private static final int[] PERCENTS = {1, 30, 34, 40, 60, 67, 100};

    private static int wrong = 0;
    private static int answers = 0;

    private final boolean[][] refers = new boolean[OBJECTS][OBJECTS];
    private final boolean[] root = new boolean[OBJECTS];
    private final List<List<Integer>> paths = new ArrayList<>();
    private final int[] immediate = new int[OBJECTS];
    private final int[] retained = new int[OBJECTS];
    private final HeapBrowser x = new HeapBrowser();
    private final String name;

    private SmallHeapTests(int references, int roots) {
        name = " with references " + Integer.toBinaryString(references) + " and roots " + Integer.toBinaryString(roots);
        for (int object = 0; object < OBJECTS; object++) {
            x.newArray(LENGTHS[object]);
            root[object] = (roots >> object & 1) == 1;
            for (int target = 0; target < OBJECTS; target++) {
                refers[object][target] = (references >> object * OBJECTS + target & 1) == 1;
            }
        }
    }

    private void due(long got, long want, String what) {
        answers++;
        if (got != want) {
            wrong++;
            if (wrong <= 20) {
                System.out.println(what + name + " answered " + got + ", due is " + want);
            }
        }
    }

    public static void main(String[] args) {
        for (int references = 0; references < 1 << OBJECTS * OBJECTS; references++) {
            for (int roots = 0; roots < 1 << OBJECTS; roots++) {
                new SmallHeapTests(references, roots).compare();
            }
        }
        System.out.println(wrong == 0 ? "all small heaps answer as due (" + answers + " answers)" : wrong + " answers are not as due");
        if (wrong != 0) {
            System.exit(1);
        }
    }

    private void compare() {
        build();
        findPaths();
        for (int object = 0; object < OBJECTS; object++) {
            immediate[object] = immediateOf(object);
            retained[object] = retainedBy(object);
        }
        for (int object = 0; object < OBJECTS; object++) {
            comparePath(object);
            compareDominators(object);
            compareComponent(object);
            compareWhatIf(object);
        }
        for (int object = -1; object < OBJECTS; object++) {
            compareDominated(object);
        }
        for (int percent : PERCENTS) {
            compareSuspects(percent);
        }
        due(x.collect(), total(SIZES) - reachableSize(), "collect()");
        for (int object = 0; object < OBJECTS; object++) {
            due(x.exists(object) ? 1 : 0, reachable(object) ? 1 : 0, "after collect() exists(" + object + ")");
        }
    }

    private static int slotOf(int object, int target) {
        return (object + target) % LENGTHS[object];
    }

    private void build() {
        for (int object = 0; object < OBJECTS; object++) {
            if (root[object]) {
                x.addRoot(object, object);
            }
            for (int target = 0; target < OBJECTS; target++) {
                if (refers[object][target]) {
                    x.set(object, slotOf(object, target), target);
                }
            }
        }
    }

    private void findPaths() {
        paths.clear();
        for (int object = 0; object < OBJECTS; object++) {
            if (root[object]) {
                addPaths(List.of(object));
            }
        }
    }

    private void addPaths(List<Integer> path) {
        paths.add(path);
        int last = path.get(path.size() - 1);
        for (int next = 0; next < OBJECTS; next++) {
            if (refers[last][next] && !path.contains(next)) {
                List<Integer> longer = new ArrayList<>(path);
                longer.add(next);
                addPaths(longer);
            }
        }
    }

    private List<List<Integer>> pathsTo(int object) {
        return paths.stream().filter(path -> path.get(path.size() - 1) == object).toList();
    }

    private boolean reachable(int object) {
        return !pathsTo(object).isEmpty();
    }

    private boolean dominates(int one, int other) {
        return reachable(other) && pathsTo(other).stream().allMatch(path -> path.contains(one));
    }

    private int immediateOf(int object) {
        for (int one = 0; one < OBJECTS; one++) {
            boolean is = one != object && dominates(one, object);
            for (int other = 0; other < OBJECTS; other++) {
                is &= other == object || !dominates(other, object) || dominates(other, one);
            }
            if (is) {
                return one;
            }
        }
        return HeapBrowser.NONE;
    }

    private int retainedBy(int object) {
        int sum = 0;
        for (int other = 0; other < OBJECTS; other++) {
            sum += dominates(object, other) ? SIZES[other] : 0;
        }
        return sum;
    }

    private int reachableSize() {
        int sum = 0;
        for (int object = 0; object < OBJECTS; object++) {
            sum += reachable(object) ? SIZES[object] : 0;
        }
        return sum;
    }

    private static int total(int[] numbers) {
        return Arrays.stream(numbers).sum();
    }

    /** The path: a shortest one, of these the smallest one; one digit for each object, so texts compare like paths. */
    private List<Integer> pathOf(int object) {
        List<Integer> best = List.of();
        for (List<Integer> path : pathsTo(object)) {
            boolean shorter = best.isEmpty() || path.size() < best.size();
            boolean smaller = path.size() == best.size() && path.toString().compareTo(best.toString()) < 0;
            best = shorter || smaller ? path : best;
        }
        return best;
    }

    private void comparePath(int object) {
        List<Integer> path = pathOf(object);
        due(x.distance(object), path.size() - 1, "distance(" + object + ")");
        for (int index = -1; index <= OBJECTS; index++) {
            int want = index >= 0 && index < path.size() ? path.get(index) : HeapBrowser.NONE;
            due(x.pathAt(object, index), want, "pathAt(" + object + ", " + index + ")");
        }
    }

    private void compareDominators(int object) {
        int dominators = 0;
        int dominated = 0;
        for (int other = 0; other < OBJECTS; other++) {
            due(x.dominates(other, object) ? 1 : 0, dominates(other, object) ? 1 : 0, "dominates(" + other + ", " + object + ")");
            dominators += dominates(other, object) ? 1 : 0;
            dominated += dominates(object, other) ? 1 : 0;
        }
        due(x.dominator(object), immediate[object], "dominator(" + object + ")");
        due(x.depth(object), dominators - 1, "depth(" + object + ")");
        due(x.retainedSize(object), retained[object], "retainedSize(" + object + ")");
        due(x.retainedObjects(object), dominated, "retainedObjects(" + object + ")");
        float share = reachable(object) ? (float) retained[object] / (float) reachableSize() : 0.0f;
        due(x.shareBits(object), Float.floatToIntBits(share), "shareBits(" + object + ")");
    }

    private boolean leads(int from, int to) {
        // With three objects a way has at most two others before its end.
        for (int one = 0; one < OBJECTS; one++) {
            for (int two = 0; two < OBJECTS; two++) {
                boolean first = from == one || refers[from][one];
                boolean second = one == two || refers[one][two];
                if (first && second && (two == to || refers[two][to])) {
                    return true;
                }
            }
        }
        return false;
    }

    private void compareComponent(int object) {
        int lowest = HeapBrowser.NONE;
        int size = 0;
        for (int other = OBJECTS - 1; other >= 0; other--) {
            if (leads(object, other) && leads(other, object)) {
                lowest = other;
                size++;
            }
        }
        due(x.component(object), lowest, "component(" + object + ")");
        due(x.componentSize(object), size, "componentSize(" + object + ")");
    }

    private void compareWhatIf(int object) {
        int before = reachableSize();
        boolean rooted = root[object];
        root[object] = false;
        findPaths();
        due(x.freedByUnrooting(object), before - reachableSize(), "freedByUnrooting(" + object + ")");
        root[object] = rooted;
        for (int target = 0; target < OBJECTS; target++) {
            boolean referred = refers[object][target];
            refers[object][target] = false;
            findPaths();
            int slot = slotOf(object, target);
            due(x.freedByClearing(object, slot), before - reachableSize(), "freedByClearing(" + object + ", " + slot + ")");
            refers[object][target] = referred;
        }
        findPaths();
    }

    private List<Integer> children(int object) {
        List<Integer> children = new ArrayList<>();
        for (int other = 0; other < OBJECTS; other++) {
            if (reachable(other) && immediate[other] == object) {
                children.add(other);
            }
        }
        return children;
    }

    private void compareDominated(int object) {
        List<Integer> children = children(object);
        for (int index = -1; index <= OBJECTS; index++) {
            int want = index >= 0 && index < children.size() ? children.get(index) : HeapBrowser.NONE;
            due(x.dominatedAt(object, index), want, "dominatedAt(" + object + ", " + index + ")");
        }
    }

    private boolean large(int object, int percent, int whole) {
        return reachable(object) && retained[object] * 100 >= percent * whole;
    }

    private void compareSuspects(int percent) {
        int whole = reachableSize();
        List<Integer> suspects = new ArrayList<>();
        for (int object = 0; object < OBJECTS; object++) {
            if (large(object, percent, whole) && children(object).stream().noneMatch(child -> large(child, percent, whole))) {
                suspects.add(object);
            }
            if (reachable(object)) {
                due(x.accumulationPoint(object, percent), accumulation(object, percent), "accumulationPoint(" + object + ", " + percent + ")");
            }
        }
        suspects.sort((one, other) -> retained[one] != retained[other] ? retained[other] - retained[one] : one - other);
        for (int index = -1; index <= OBJECTS; index++) {
            int want = index >= 0 && index < suspects.size() ? suspects.get(index) : HeapBrowser.NONE;
            due(x.suspectAt(percent, index), want, "suspectAt(" + percent + ", " + index + ")");
        }
    }

    private int accumulation(int object, int percent) {
        int best = HeapBrowser.NONE;
        for (int child : children(object)) {
            boolean better = best == HeapBrowser.NONE || retained[child] > retained[best];
            best = large(child, percent, retained[object]) && better ? child : best;
        }
        return best == HeapBrowser.NONE ? object : accumulation(best, percent);
    }
}
