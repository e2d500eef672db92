/** For each promise of the document ordinary inputs, its edges and wrong inputs; and the document's six examples. */
public final class PromiseTests {
    private static final int NONE = HeapBrowser.NONE;
    private static final Class<?> INDEX = IndexOutOfBoundsException.class;
    private static final Class<?> ARGUMENT = IllegalArgumentException.class;
    private static final Class<?> STATE = IllegalStateException.class;
    private static final int[] WILD = {Integer.MIN_VALUE, -2, 1000, Integer.MAX_VALUE};

    private static String part = "";
    private static int checks = 0;
    private static int wrong = 0;

    interface Call {
        void make();
    }

    private static void due(long got, long want) {
        checks++;
        if (got != want) {
            wrong++;
            System.out.println(part + ", check " + checks + " (line " + line() + "): answered " + got + ", due is " + want);
        }
    }

    private static void due(boolean got, boolean want) {
        due(got ? 1 : 0, want ? 1 : 0);
    }

    /** The very class is looked at: what the machine throws is a class below, and must not come. */
    private static void refused(HeapBrowser x, Class<?> want, Call call) {
        checks++;
        long before = x.digest();
        Class<?> got = null;
        try {
            call.make();
        } catch (RuntimeException e) {
            got = e.getClass();
        }
        if (got != want) {
            wrong++;
            System.out.println(part + ", check " + checks + " (line " + line() + "): threw " + got + ", due is " + want);
        }
        if (x.digest() != before) {
            wrong++;
            System.out.println(part + ", check " + checks + " (line " + line() + "): changed something although it threw");
        }
    }

    private static int line() {
        for (StackTraceElement element : new Throwable().getStackTrace()) {
            String method = element.getMethodName();
            if (!method.equals("line") && !method.equals("due") && !method.equals("refused")) {
                return element.getLineNumber();
            }
        }
        return 0;
    }

    private static void write(HeapBrowser x, String text) {
        x.clearText();
        for (int i = 0; i < text.length(); i++) {
            x.append(text.charAt(i));
        }
    }

    private static int matches(HeapBrowser x, String filter) {
        write(x, filter);
        return x.matches();
    }

    private static int execute(HeapBrowser x, String commands) {
        write(x, commands);
        return x.execute();
    }

    private static HeapBrowser full() {
        HeapBrowser x = new HeapBrowser();
        for (int i = 0; i < 40; i++) {
            x.newArray(0);
        }
        return x;
    }

    /** Arrays of length 8 with the references a to b for each pair, and roots of kind 0. */
    private static HeapBrowser graph(int count, int[] roots, int... pairs) {
        HeapBrowser x = new HeapBrowser();
        for (int i = 0; i < count; i++) {
            x.newArray(8);
        }
        for (int i = 0; i + 1 < pairs.length; i += 2) {
            int slot = 0;
            while (x.get(pairs[i], slot) != NONE) {
                slot++;
            }
            x.set(pairs[i], slot, pairs[i + 1]);
        }
        for (int root : roots) {
            x.addRoot(root, 0);
        }
        return x;
    }

    private static int[] numbers(int... numbers) {
        return numbers;
    }

    private static void promise1() {
        HeapBrowser x = new HeapBrowser();
        due(HeapBrowser.NONE, -1);
        due(x.classes(), 1);
        due(x.classInfo(0, 0), NONE);
        due(x.classInfo(0, 1), 0);
        due(x.classInfo(0, 2), 16);
        due(x.classInfo(0, 3), 0);
        due(x.objects(), 0);
        due(x.clearText(), 0);
        refused(x, STATE, () -> x.undo());
        refused(x, STATE, () -> x.compare(0, 0));
        refused(x, STATE, () -> x.compare(1, 0));
        due(x.newHolder(), 0);
        due(x.objectInfo(0, 1), 1);
    }

    private static void promise2() {
        HeapBrowser x = new HeapBrowser();
        due(x.defineClass(0, 3, 40), 1);
        due(x.defineClass(1, 2, 0), 2);
        refused(x, ARGUMENT, () -> x.defineClass(2, 1, 0));
        refused(x, ARGUMENT, () -> x.defineClass(1, 3, 0));
        due(x.defineClass(2, 0, 1), 3);
        refused(x, INDEX, () -> x.defineClass(4, 0, 0));
        refused(x, INDEX, () -> x.defineClass(-1, 0, 0));
        refused(x, ARGUMENT, () -> x.defineClass(0, 4, 0));
        refused(x, ARGUMENT, () -> x.defineClass(0, -1, 0));
        refused(x, ARGUMENT, () -> x.defineClass(0, 0, 41));
        refused(x, ARGUMENT, () -> x.defineClass(0, 0, -1));
        for (int wild : WILD) {
            refused(x, INDEX, () -> x.defineClass(wild, 9, 0));
            refused(x, ARGUMENT, () -> x.defineClass(1, wild, 0));
            refused(x, ARGUMENT, () -> x.defineClass(1, 0, wild));
        }
        for (int number = 4; number < 10; number++) {
            due(x.defineClass(0, 0, 0), number);
        }
        due(x.classes(), 10);
        refused(x, STATE, () -> x.defineClass(0, 0, 0));
        refused(x, ARGUMENT, () -> x.defineClass(0, 4, 0));
        refused(x, INDEX, () -> x.defineClass(10, 4, 0));
        due(x.undo(), 4);
        due(x.classes(), 9);
        due(x.defineClass(3, 0, 40), 9);
        due(x.classInfo(9, 0), 3);
    }

    private static void promise3() {
        HeapBrowser x = new HeapBrowser();
        for (int count = 1; count < 10; count++) {
            due(x.classes(), count);
            x.defineClass(count - 1, 0, 0);
        }
        due(x.classes(), 10);
    }

    private static void promise4() {
        HeapBrowser x = new HeapBrowser();
        x.defineClass(0, 2, 5);
        x.defineClass(1, 3, 7);
        x.defineClass(1, 0, 8);
        x.defineClass(0, 1, 0);
        due(x.classInfo(0, 0), NONE);
        due(x.classInfo(1, 0), 0);
        due(x.classInfo(2, 0), 1);
        due(x.classInfo(2, 1), 5);
        due(x.classInfo(3, 1), 2);
        due(x.classInfo(1, 2), 32);
        due(x.classInfo(2, 2), 48);
        due(x.classInfo(3, 2), 40);
        due(x.classInfo(4, 2), 16);
        due(x.classInfo(0, 3), 2);
        due(x.classInfo(1, 3), 2);
        due(x.classInfo(2, 3), 0);
        refused(x, INDEX, () -> x.classInfo(5, 0));
        refused(x, INDEX, () -> x.classInfo(-1, 9));
        refused(x, ARGUMENT, () -> x.classInfo(0, -1));
        refused(x, ARGUMENT, () -> x.classInfo(4, 4));
        for (int wild : WILD) {
            refused(x, INDEX, () -> x.classInfo(wild, wild));
            refused(x, ARGUMENT, () -> x.classInfo(2, wild));
        }
    }

    private static void promise5() {
        HeapBrowser x = new HeapBrowser();
        x.defineClass(0, 0, 0);
        x.defineClass(1, 0, 0);
        x.defineClass(0, 0, 0);
        due(x.isSubclass(0, 0), true);
        due(x.isSubclass(2, 2), true);
        due(x.isSubclass(2, 1), true);
        due(x.isSubclass(2, 0), true);
        due(x.isSubclass(1, 2), false);
        due(x.isSubclass(3, 1), false);
        due(x.isSubclass(2, 3), false);
        due(x.isSubclass(0, 3), false);
        HeapBrowser chain = new HeapBrowser();
        for (int number = 1; number < 10; number++) {
            chain.defineClass(number - 1, 0, 0);
        }
        due(chain.isSubclass(9, 0), true);
        due(chain.isSubclass(9, 1), true);
        due(chain.isSubclass(0, 9), false);
        refused(x, INDEX, () -> x.isSubclass(4, 0));
        refused(x, INDEX, () -> x.isSubclass(0, 4));
        refused(x, INDEX, () -> x.isSubclass(-1, 0));
        refused(x, INDEX, () -> x.isSubclass(0, -1));
        for (int wild : WILD) {
            refused(x, INDEX, () -> x.isSubclass(wild, wild));
        }
    }

    private static void promise6() {
        HeapBrowser x = new HeapBrowser();
        x.defineClass(0, 2, 3);
        x.defineClass(1, 1, 3);
        due(x.newInstance(2), 0);
        due(x.newInstance(0), 1);
        due(x.objectInfo(0, 0), 2);
        due(x.objectInfo(0, 1), 1);
        due(x.objectInfo(0, 2), 32);
        due(x.objectInfo(0, 3), 0);
        due(x.objectInfo(0, 4), 3);
        due(x.objectInfo(0, 5), 0);
        due(x.get(0, 0), NONE);
        due(x.get(0, 2), NONE);
        due(x.objectInfo(1, 1), 2);
        due(x.objectInfo(1, 4), 0);
        refused(x, INDEX, () -> x.newInstance(3));
        refused(x, INDEX, () -> x.newInstance(-1));
        for (int wild : WILD) {
            refused(x, INDEX, () -> x.newInstance(wild));
        }
        due(x.undo(), 3);
        due(x.objects(), 1);
        HeapBrowser y = full();
        refused(y, STATE, () -> y.newInstance(0));
        refused(y, INDEX, () -> y.newInstance(1));
    }

    private static void promise7() {
        HeapBrowser x = new HeapBrowser();
        int[] sizes = {16, 24, 24, 32, 32, 40, 40, 48, 48};
        for (int length = 0; length <= 8; length++) {
            due(x.newArray(length), length);
            due(x.objectInfo(length, 0), 10);
            due(x.objectInfo(length, 2), sizes[length]);
            due(x.objectInfo(length, 4), length);
        }
        refused(x, ARGUMENT, () -> x.newArray(-1));
        refused(x, ARGUMENT, () -> x.newArray(9));
        for (int wild : WILD) {
            refused(x, ARGUMENT, () -> x.newArray(wild));
        }
        due(x.undo(), 4);
        due(x.exists(8), false);
        HeapBrowser y = full();
        due(y.exists(39), true);
        refused(y, STATE, () -> y.newArray(0));
        refused(y, ARGUMENT, () -> y.newArray(9));
        y.addRoot(5, 0);
        due(y.collect(), 39 * 16);
        due(y.newArray(8), 0);
        due(y.newArray(8), 1);
        due(y.objectInfo(1, 1), 42);
        due(y.get(1, 7), NONE);
    }

    private static void promise8() {
        HeapBrowser x = new HeapBrowser();
        due(x.newHolder(), 0);
        due(x.newHolder(), 1);
        due(x.objectInfo(1, 0), 11);
        due(x.objectInfo(1, 2), 24);
        due(x.objectInfo(1, 4), 1);
        due(x.referent(1), NONE);
        due(x.undo(), 1);
        due(x.objects(), 1);
        HeapBrowser y = full();
        refused(y, STATE, () -> y.newHolder());
    }

    private static void promise9() {
        HeapBrowser x = new HeapBrowser();
        x.newArray(2);
        x.newHolder();
        due(x.set(0, 0, 1), NONE);
        due(x.set(0, 0, 0), 1);
        due(x.set(0, 0, NONE), 0);
        due(x.set(0, 1, 1), NONE);
        due(x.set(1, 0, 0), NONE);
        due(x.get(0, 0), NONE);
        due(x.get(0, 1), 1);
        due(x.get(1, 0), 0);
        refused(x, INDEX, () -> x.set(2, 0, 0));
        refused(x, INDEX, () -> x.set(-1, 0, 0));
        refused(x, INDEX, () -> x.set(0, 2, 0));
        refused(x, INDEX, () -> x.set(0, -1, 0));
        refused(x, INDEX, () -> x.set(1, 1, 0));
        refused(x, INDEX, () -> x.set(0, 0, 2));
        refused(x, INDEX, () -> x.set(0, 0, -2));
        refused(x, INDEX, () -> x.set(0, 0, 40));
        for (int wild : WILD) {
            refused(x, INDEX, () -> x.set(wild, 0, 0));
            refused(x, INDEX, () -> x.set(0, wild, 0));
            refused(x, INDEX, () -> x.set(0, 0, wild));
        }
        due(x.undo(), 4);
        due(x.get(1, 0), NONE);
        due(x.set(0, 1, 1), 1);
        due(x.undo(), 4);
    }

    private static void promise10() {
        HeapBrowser x = new HeapBrowser();
        x.newArray(8);
        x.newHolder();
        x.set(0, 7, 1);
        x.set(1, 0, 1);
        due(x.get(0, 7), 1);
        due(x.get(0, 6), NONE);
        due(x.get(1, 0), 1);
        refused(x, INDEX, () -> x.get(0, 8));
        refused(x, INDEX, () -> x.get(0, -1));
        refused(x, INDEX, () -> x.get(1, 1));
        refused(x, INDEX, () -> x.get(2, 0));
        refused(x, INDEX, () -> x.get(-1, 0));
        refused(x, INDEX, () -> x.get(40, 0));
        for (int wild : WILD) {
            refused(x, INDEX, () -> x.get(wild, 0));
            refused(x, INDEX, () -> x.get(0, wild));
        }
    }

    private static void promise11() {
        HeapBrowser x = new HeapBrowser();
        x.newArray(3);
        x.newHolder();
        x.newInstance(0);
        x.set(0, 1, 1);
        x.set(0, 2, 2);
        due(x.resizeArray(0, 2), 3);
        due(x.objectInfo(0, 4), 2);
        due(x.objectInfo(0, 2), 24);
        due(x.get(0, 1), 1);
        due(x.objectInfo(2, 7), 0);
        due(x.resizeArray(0, 8), 2);
        due(x.objectInfo(0, 2), 48);
        due(x.get(0, 1), 1);
        due(x.get(0, 2), NONE);
        due(x.get(0, 7), NONE);
        due(x.resizeArray(0, 8), 8);
        due(x.undo(), 4);
        due(x.undo(), 3);
        due(x.undo(), 2);
        due(x.get(0, 2), 2);
        due(x.resizeArray(0, 0), 3);
        due(x.objectInfo(0, 2), 16);
        refused(x, INDEX, () -> x.resizeArray(3, 0));
        refused(x, INDEX, () -> x.resizeArray(-1, 9));
        refused(x, ARGUMENT, () -> x.resizeArray(0, 9));
        refused(x, ARGUMENT, () -> x.resizeArray(0, -1));
        refused(x, ARGUMENT, () -> x.resizeArray(1, 9));
        refused(x, STATE, () -> x.resizeArray(1, 1));
        refused(x, STATE, () -> x.resizeArray(2, 0));
        for (int wild : WILD) {
            refused(x, INDEX, () -> x.resizeArray(wild, wild));
            refused(x, ARGUMENT, () -> x.resizeArray(1, wild));
        }
    }

    private static void promise12() {
        HeapBrowser x = new HeapBrowser();
        x.newHolder();
        x.newArray(1);
        due(x.referent(0), NONE);
        x.set(0, 0, 1);
        due(x.referent(0), 1);
        x.set(0, 0, 0);
        due(x.referent(0), 0);
        refused(x, STATE, () -> x.referent(1));
        refused(x, INDEX, () -> x.referent(2));
        refused(x, INDEX, () -> x.referent(-1));
        for (int wild : WILD) {
            refused(x, INDEX, () -> x.referent(wild));
        }
    }

    private static void promise13() {
        HeapBrowser x = new HeapBrowser();
        x.newArray(0);
        due(x.addRoot(0, 2), 4);
        due(x.addRoot(0, 0), 5);
        due(x.addRoot(0, 0), 5);
        due(x.addRoot(0, 1), 7);
        due(x.objectInfo(0, 5), 7);
        due(x.undo(), 4);
        due(x.objectInfo(0, 5), 5);
        due(x.undo(), 3);
        due(x.objectInfo(0, 5), 5);
        refused(x, INDEX, () -> x.addRoot(1, 0));
        refused(x, INDEX, () -> x.addRoot(-1, 3));
        refused(x, ARGUMENT, () -> x.addRoot(0, 3));
        refused(x, ARGUMENT, () -> x.addRoot(0, -1));
        for (int wild : WILD) {
            refused(x, INDEX, () -> x.addRoot(wild, wild));
            refused(x, ARGUMENT, () -> x.addRoot(0, wild));
        }
    }

    private static void promise14() {
        HeapBrowser x = new HeapBrowser();
        x.newArray(0);
        x.addRoot(0, 0);
        x.addRoot(0, 2);
        refused(x, STATE, () -> x.removeRoot(0, 1));
        due(x.removeRoot(0, 0), 4);
        refused(x, STATE, () -> x.removeRoot(0, 0));
        due(x.removeRoot(0, 2), 0);
        due(x.distance(0), NONE);
        due(x.undo(), 4);
        due(x.objectInfo(0, 5), 4);
        refused(x, INDEX, () -> x.removeRoot(1, 0));
        refused(x, INDEX, () -> x.removeRoot(-1, 3));
        refused(x, ARGUMENT, () -> x.removeRoot(0, 3));
        refused(x, ARGUMENT, () -> x.removeRoot(0, -1));
        for (int wild : WILD) {
            refused(x, INDEX, () -> x.removeRoot(wild, wild));
            refused(x, ARGUMENT, () -> x.removeRoot(0, wild));
        }
    }

    private static void promise15() {
        HeapBrowser x = graph(5, numbers(1), 1, 2, 3, 4, 4, 3, 0, 2);
        x.newHolder();
        x.newHolder();
        x.set(5, 0, 3);
        x.set(6, 0, 2);
        x.addRoot(5, 1);
        x.addRoot(6, 2);
        due(x.collect(), 3 * 48);
        due(x.objects(), 4);
        due(x.exists(0), false);
        due(x.exists(3), false);
        due(x.exists(4), false);
        due(x.referent(5), NONE);
        due(x.referent(6), 2);
        due(x.objectInfo(1, 3), 1);
        due(x.objectInfo(5, 3), 1);
        due(x.newArray(1), 0);
        due(x.objectInfo(0, 3), 0);
        due(x.objectInfo(0, 5), 0);
        due(x.get(0, 0), NONE);
        due(x.undo(), 4);
        due(x.undo(), 3);
        due(x.objects(), 7);
        due(x.referent(5), 3);
        due(x.objectInfo(1, 3), 0);
        x.collect();
        for (int times = 2; times <= 99; times++) {
            due(x.collect(), 0);
        }
        due(x.objectInfo(1, 3), 99);
        due(x.collect(), 0);
        due(x.objectInfo(1, 3), 99);
        due(new HeapBrowser().collect(), 0);
        agesOfInstances();
    }

    /** Instances of class 0 age, too, and a number that was used before gives no age to the next object. */
    private static void agesOfInstances() {
        HeapBrowser x = new HeapBrowser();
        x.newInstance(0);
        x.addRoot(0, 1);
        due(x.distance(0), 0);
        due(x.collect(), 0);
        due(x.collect(), 0);
        due(x.objectInfo(0, 3), 2);
        x.removeRoot(0, 1);
        due(x.collect(), 16);
        due(x.newInstance(0), 0);
        due(x.objectInfo(0, 3), 0);
        due(x.objectInfo(0, 5), 0);
        due(x.distance(0), NONE);
    }

    private static void promise16() {
        HeapBrowser x = new HeapBrowser();
        due(x.objects(), 0);
        x.newArray(0);
        x.newHolder();
        x.newInstance(0);
        due(x.objects(), 3);
        x.addRoot(1, 0);
        x.collect();
        due(x.objects(), 1);
        due(full().objects(), 40);
    }

    private static void promise17() {
        HeapBrowser x = graph(3, numbers(1));
        x.collect();
        due(x.exists(0), false);
        due(x.exists(1), true);
        due(x.exists(2), false);
        due(x.exists(-1), false);
        due(x.exists(40), false);
        for (int wild : WILD) {
            due(x.exists(wild), false);
        }
        due(full().exists(39), true);
        due(full().exists(40), false);
    }

    private static void promise18() {
        HeapBrowser x = new HeapBrowser();
        x.defineClass(0, 3, 1);
        x.newInstance(1);
        x.newHolder();
        x.newArray(5);
        x.set(0, 0, 2);
        x.set(0, 2, 2);
        x.set(2, 1, 2);
        x.set(1, 0, 2);
        x.addRoot(1, 2);
        due(x.objectInfo(0, 0), 1);
        due(x.objectInfo(1, 0), 11);
        due(x.objectInfo(2, 0), 10);
        due(x.objectInfo(2, 1), 3);
        due(x.objectInfo(0, 2), 32);
        due(x.objectInfo(0, 4), 3);
        due(x.objectInfo(1, 5), 4);
        due(x.objectInfo(0, 6), 2);
        due(x.objectInfo(1, 6), 0);
        due(x.objectInfo(2, 6), 1);
        due(x.objectInfo(2, 7), 3);
        due(x.objectInfo(0, 7), 0);
        x.set(0, 0, NONE);
        due(x.objectInfo(2, 7), 2);
        due(x.objectInfo(0, 6), 1);
        due(x.objectInfo(2, 7), 2);
        x.collect();
        due(x.objectInfo(1, 3), 1);
        HeapBrowser y = graph(2, numbers(1), 0, 1, 0, 1);
        due(y.objectInfo(1, 7), 2);
        y.collect();
        due(y.objectInfo(1, 7), 0);
        refused(x, INDEX, () -> x.objectInfo(0, 0));
        refused(x, INDEX, () -> x.objectInfo(-1, 8));
        refused(x, ARGUMENT, () -> x.objectInfo(1, 8));
        refused(x, ARGUMENT, () -> x.objectInfo(1, -1));
        for (int wild : WILD) {
            refused(x, INDEX, () -> x.objectInfo(wild, wild));
            refused(x, ARGUMENT, () -> x.objectInfo(1, wild));
        }
    }

    private static long x19;

    private static int below(int n) {
        x19 = (x19 * 1103515245L + 12345L) % 2147483648L;
        return (int) (x19 / 65536 % n);
    }

    /** Draws once more by the document's words and compares each object. */
    private static void promise19() {
        for (int start : numbers(0, 1, 7, 12345, Integer.MAX_VALUE)) {
            HeapBrowser x = new HeapBrowser();
            x.defineClass(0, 3, 0);
            x.defineClass(1, 2, 0);
            x.newArray(0);
            due(x.populate(start, 39), 40);
            due(x.objectInfo(39, 1), 40);
            x19 = start;
            int[] fields = {0, 3, 5};
            for (int object = 1; object < 40; object++) {
                int kind = below(4);
                int group = kind < 2 ? below(3) : kind == 2 ? 10 : 11;
                int length = kind < 2 ? fields[group] : kind == 2 ? below(9) : 1;
                due(x.objectInfo(object, 0), group);
                due(x.objectInfo(object, 4), length);
                for (int slot = 0; slot < length; slot++) {
                    due(x.get(object, slot), below(3) == 0 ? NONE : below(object + 1));
                }
                due(x.objectInfo(object, 5), below(5) == 0 ? 1 << below(3) : 0);
            }
            due(x.undo(), 3);
            due(x.objects(), 1);
        }
        due(new HeapBrowser().populate(0, 40), 40);
        HeapBrowser y = graph(4, numbers(2));
        y.collect();
        due(y.populate(3, 2), 3);
        due(y.exists(0), true);
        due(y.exists(1), true);
        refused(y, ARGUMENT, () -> y.populate(-1, 1));
        refused(y, ARGUMENT, () -> y.populate(0, 0));
        refused(y, ARGUMENT, () -> y.populate(0, 41));
        refused(y, ARGUMENT, () -> y.populate(Integer.MIN_VALUE, 40));
        refused(y, STATE, () -> y.populate(0, 38));
        due(y.populate(0, 37), 40);
        refused(y, STATE, () -> y.populate(0, 1));
        for (int wild : WILD) {
            refused(y, ARGUMENT, () -> y.populate(0, wild));
        }
    }

    private static void promise20() {
        HeapBrowser x = graph(6, numbers(0, 4), 0, 1, 1, 2, 2, 3, 4, 3, 3, 0, 5, 0);
        due(x.distance(0), 0);
        due(x.distance(1), 1);
        due(x.distance(2), 2);
        due(x.distance(3), 1);
        due(x.distance(4), 0);
        due(x.distance(5), NONE);
        x.newHolder();
        x.addRoot(6, 0);
        x.set(6, 0, 5);
        due(x.distance(5), NONE);
        noSuchObject(x, object -> x.distance(object));
    }

    interface OnObject {
        void make(int object);
    }

    private static void noSuchObject(HeapBrowser x, OnObject call) {
        for (int object : numbers(-2, -1, 39, 40, 64, Integer.MIN_VALUE, Integer.MAX_VALUE)) {
            refused(x, INDEX, () -> call.make(object));
        }
    }

    private static void noSuchObjectButNone(HeapBrowser x, OnObject call) {
        for (int object : numbers(-2, 39, 40, 64, Integer.MIN_VALUE, Integer.MAX_VALUE)) {
            refused(x, INDEX, () -> call.make(object));
        }
    }

    private static void promise21() {
        // Of 5-1-7, 0-3-7 and 0-2-7 the last one is the smallest; the slots refer in another order.
        HeapBrowser x = graph(9, numbers(5, 0), 5, 1, 0, 3, 0, 2, 3, 7, 2, 7, 1, 7, 7, 8, 8, 4);
        due(x.pathAt(7, 0), 0);
        due(x.pathAt(7, 1), 2);
        due(x.pathAt(7, 2), 7);
        due(x.pathAt(7, 3), NONE);
        due(x.pathAt(7, -1), NONE);
        due(x.pathAt(4, 0), 0);
        due(x.pathAt(4, 1), 2);
        due(x.pathAt(4, 4), 4);
        due(x.pathAt(1, 0), 5);
        due(x.pathAt(5, 0), 5);
        due(x.pathAt(5, 1), NONE);
        due(x.pathAt(6, 0), NONE);
        due(x.pathAt(6, -1), NONE);
        // The root decides first: 1-9 goes before 2-0.
        HeapBrowser y = graph(10, numbers(1, 2), 2, 0, 0, 3, 1, 9, 9, 3);
        due(y.pathAt(3, 0), 1);
        due(y.pathAt(3, 1), 9);
        // An object 0 within a path is no end of it.
        HeapBrowser z = graph(4, numbers(3), 3, 0, 0, 1, 1, 2);
        due(z.pathAt(2, 0), 3);
        due(z.pathAt(2, 1), 0);
        due(z.pathAt(2, 2), 1);
        due(z.pathAt(2, 3), 2);
        for (int wild : WILD) {
            due(x.pathAt(7, wild), NONE);
        }
        noSuchObject(x, object -> x.pathAt(object, 0));
    }

    /** 0 is a root; 1 and 2 lead to 3, which leads to 4; 5 is a root that leads to 6, 4 leads to 7; 8 is garbage. */
    private static HeapBrowser diamond() {
        return graph(9, numbers(0, 5), 0, 1, 0, 2, 1, 3, 2, 3, 3, 4, 5, 6, 4, 7, 8, 8, 8, 4);
    }

    /** 0 leads to 2 by 1 and, on a longer way that is found later, by 4 to 7; 2 leads to 3 and 8; 9 is found last. */
    private static HeapBrowser lateJoin() {
        return graph(10, numbers(0), 0, 1, 1, 2, 2, 3, 3, 8, 0, 4, 4, 5, 5, 6, 6, 7, 7, 2, 7, 9, 7, 2);
    }

    private static void promise22() {
        HeapBrowser x = diamond();
        due(x.dominates(0, 3), true);
        due(x.dominates(3, 4), true);
        due(x.dominates(3, 7), true);
        due(x.dominates(1, 3), false);
        due(x.dominates(3, 3), true);
        due(x.dominates(4, 3), false);
        due(x.dominates(5, 3), false);
        due(x.dominates(8, 8), false);
        due(x.dominates(8, 4), false);
        due(x.dominates(0, 8), false);
        noSuchObject(x, object -> x.dominates(object, 0));
        noSuchObject(x, object -> x.dominates(0, object));
        x.addRoot(4, 0);
        due(x.dominates(3, 4), false);
        due(x.dominates(4, 7), true);
        HeapBrowser y = lateJoin();
        due(y.dominates(1, 3), false);
        due(y.dominates(1, 8), false);
        due(y.dominates(7, 2), false);
        due(y.dominates(2, 8), true);
        due(y.dominates(5, 7), true);
    }

    private static void promise23() {
        HeapBrowser x = diamond();
        due(x.dominator(0), NONE);
        due(x.dominator(1), 0);
        due(x.dominator(3), 0);
        due(x.dominator(4), 3);
        due(x.dominator(6), 5);
        due(x.dominator(7), 4);
        due(x.dominator(8), NONE);
        noSuchObject(x, object -> x.dominator(object));
        x.set(6, 0, 4);
        due(x.dominator(4), NONE);
        due(x.dominator(7), 4);
        HeapBrowser y = lateJoin();
        due(y.dominator(2), 0);
        due(y.dominator(3), 2);
        due(y.dominator(8), 3);
        due(y.dominator(7), 6);
    }

    private static void promise24() {
        HeapBrowser x = diamond();
        due(x.depth(0), 0);
        due(x.depth(1), 1);
        due(x.depth(3), 1);
        due(x.depth(4), 2);
        due(x.depth(7), 3);
        due(x.depth(8), NONE);
        due(lateJoin().depth(8), 3);
        due(lateJoin().depth(7), 4);
        noSuchObject(x, object -> x.depth(object));
    }

    private static void promise25() {
        HeapBrowser x = diamond();
        due(x.dominatedAt(0, 0), 1);
        due(x.dominatedAt(0, 1), 2);
        due(x.dominatedAt(0, 2), 3);
        due(x.dominatedAt(0, 3), NONE);
        due(x.dominatedAt(0, -1), NONE);
        due(x.dominatedAt(NONE, 0), 0);
        due(x.dominatedAt(NONE, 1), 5);
        due(x.dominatedAt(NONE, 2), NONE);
        due(x.dominatedAt(NONE, -1), NONE);
        due(x.dominatedAt(8, 0), NONE);
        due(x.dominatedAt(7, 0), NONE);
        for (int wild : WILD) {
            due(x.dominatedAt(0, wild), NONE);
        }
        noSuchObjectButNone(x, object -> x.dominatedAt(object, 0));
    }

    private static void promise26() {
        HeapBrowser x = diamond();
        due(x.retainedSize(0), 6 * 48);
        due(x.retainedSize(1), 48);
        due(x.retainedSize(3), 3 * 48);
        due(x.retainedSize(5), 2 * 48);
        due(x.retainedSize(8), 0);
        x.resizeArray(7, 0);
        due(x.retainedSize(3), 2 * 48 + 16);
        noSuchObject(x, object -> x.retainedSize(object));
    }

    private static void promise27() {
        HeapBrowser x = diamond();
        due(x.retainedObjects(0), 6);
        due(x.retainedObjects(1), 1);
        due(x.retainedObjects(3), 3);
        due(x.retainedObjects(5), 2);
        due(x.retainedObjects(8), 0);
        noSuchObject(x, object -> x.retainedObjects(object));
    }

    /** 1, 3 and 4 are a cycle, 0 leads into it, 2 and 5 are another one, to which it leads; a holder breaks a third. */
    private static HeapBrowser cycles() {
        HeapBrowser x = graph(7, numbers(5), 0, 1, 1, 3, 3, 4, 4, 1, 4, 2, 2, 5, 5, 2, 6, 6);
        x.newHolder();
        x.set(7, 0, 0);
        x.set(0, 1, 7);
        return x;
    }

    private static void promise28() {
        HeapBrowser x = cycles();
        due(x.component(0), 0);
        due(x.component(1), 1);
        due(x.component(3), 1);
        due(x.component(4), 1);
        due(x.component(2), 2);
        due(x.component(5), 2);
        due(x.component(6), 6);
        due(x.component(7), 7);
        HeapBrowser y = graph(5, numbers(), 0, 2, 2, 1, 1, 0, 4, 3, 3, 4, 3, 0);
        due(y.component(0), 0);
        due(y.component(1), 0);
        due(y.component(2), 0);
        due(y.component(3), 3);
        due(y.component(4), 3);
        noSuchObject(x, object -> x.component(object));
    }

    private static void promise29() {
        HeapBrowser x = cycles();
        due(x.componentSize(0), 1);
        due(x.componentSize(4), 3);
        due(x.componentSize(5), 2);
        due(x.componentSize(6), 1);
        due(x.componentSize(7), 1);
        noSuchObject(x, object -> x.componentSize(object));
    }

    private static void promise30() {
        HeapBrowser x = diamond();
        due(x.freedByClearing(0, 0), 48);
        due(x.freedByClearing(0, 1), 48);
        due(x.freedByClearing(3, 0), 2 * 48);
        due(x.freedByClearing(1, 0), 0);
        due(x.freedByClearing(0, 2), 0);
        due(x.freedByClearing(8, 1), 0);
        due(x.distance(4), 3);
        x.set(3, 7, 4);
        due(x.freedByClearing(3, 0), 0);
        HeapBrowser y = graph(3, numbers(2), 2, 0, 2, 1, 2, 1);
        due(y.freedByClearing(2, 0), 48);
        due(y.freedByClearing(2, 1), 0);
        x.newHolder();
        x.set(9, 0, 1);
        x.addRoot(9, 0);
        due(x.freedByClearing(9, 0), 0);
        noSuchObject(x, object -> x.freedByClearing(object, 0));
        refused(x, INDEX, () -> x.freedByClearing(0, 8));
        refused(x, INDEX, () -> x.freedByClearing(0, -1));
        refused(x, INDEX, () -> x.freedByClearing(9, 1));
        for (int wild : WILD) {
            refused(x, INDEX, () -> x.freedByClearing(0, wild));
        }
    }

    private static void promise31() {
        HeapBrowser x = diamond();
        x.addRoot(0, 2);
        due(x.freedByUnrooting(0), 6 * 48);
        due(x.freedByUnrooting(5), 2 * 48);
        due(x.freedByUnrooting(3), 0);
        due(x.freedByUnrooting(8), 0);
        due(x.objectInfo(0, 5), 5);
        x.set(6, 0, 0);
        due(x.freedByUnrooting(0), 0);
        noSuchObject(x, object -> x.freedByUnrooting(object));
    }

    /** Classes 1 below 0 and 2 below 1; instances of each, 2 of class 2; an array and two holders. */
    private static HeapBrowser groups() {
        HeapBrowser x = new HeapBrowser();
        x.defineClass(0, 2, 0);
        x.defineClass(1, 0, 8);
        x.newInstance(0);
        x.newInstance(1);
        x.newInstance(2);
        x.newInstance(2);
        x.newArray(3);
        x.newHolder();
        x.newHolder();
        x.set(1, 0, 2);
        x.set(1, 1, 4);
        x.set(2, 0, 4);
        x.set(4, 0, 5);
        x.addRoot(1, 0);
        x.addRoot(6, 1);
        return x;
    }

    private static void promise32() {
        HeapBrowser x = groups();
        due(x.group(0, 0, false), 1);
        due(x.group(0, 0, true), 4);
        due(x.group(1, 0, true), 3);
        due(x.group(1, 0, false), 1);
        due(x.group(2, 0, false), 2);
        due(x.group(2, 1, false), 1);
        due(x.group(0, 1, true), 2);
        due(x.group(10, 1, true), 1);
        due(x.group(11, 0, false), 2);
        due(x.group(0, 2, true), 16 + 24 + 32 + 32);
        due(x.group(2, 2, true), 64);
        due(x.group(10, 2, false), 32);
        due(x.group(11, 2, true), 48);
        due(x.group(0, 3, false), 0);
        due(x.group(0, 3, true), 24 + 32 + 32 + 24);
        due(x.group(2, 3, false), 32);
        due(x.group(10, 3, false), 56);
        due(x.group(11, 3, false), 48);
        // Two arrays that share what neither of them retains alone.
        HeapBrowser y = graph(2, numbers(0, 1));
        y.newHolder();
        y.set(0, 0, 2);
        y.set(1, 0, 2);
        due(y.group(10, 3, false), 120);
        refused(x, INDEX, () -> x.group(3, 0, true));
        refused(x, INDEX, () -> x.group(9, 4, true));
        refused(x, INDEX, () -> x.group(12, 0, false));
        refused(x, INDEX, () -> x.group(-1, 0, false));
        refused(x, ARGUMENT, () -> x.group(11, 4, false));
        refused(x, ARGUMENT, () -> x.group(0, -1, false));
        for (int wild : WILD) {
            refused(x, INDEX, () -> x.group(wild, wild, true));
            refused(x, ARGUMENT, () -> x.group(10, wild, true));
        }
    }

    private static void promise33() {
        HeapBrowser x = groups();
        due(x.meanRetainedBits(0), 0);
        due(x.meanRetainedBits(1), Double.doubleToLongBits(112.0));
        due(x.meanRetainedBits(2), Double.doubleToLongBits(32.0));
        due(x.meanRetainedBits(10), Double.doubleToLongBits(56.0));
        due(x.meanRetainedBits(11), Double.doubleToLongBits(24.0));
        refused(x, INDEX, () -> x.meanRetainedBits(3));
        refused(x, INDEX, () -> x.meanRetainedBits(-1));
        refused(x, INDEX, () -> x.meanRetainedBits(12));
        for (int wild : WILD) {
            refused(x, INDEX, () -> x.meanRetainedBits(wild));
        }
        // Quotients with a long fraction, rounded up and down.
        HeapBrowser y = new HeapBrowser();
        int sum = 0;
        for (int count = 1; count <= 40; count++) {
            y.newArray(count * 5 % 9);
            y.addRoot(count - 1, 0);
            sum += y.objectInfo(count - 1, 2);
            due(y.meanRetainedBits(10), Double.doubleToLongBits((double) sum / (double) count));
        }
    }

    private static void promise34() {
        HeapBrowser x = groups();
        due(x.shareBits(1), Float.floatToIntBits(112.0f / 136.0f));
        due(x.shareBits(2), Float.floatToIntBits(32.0f / 136.0f));
        due(x.shareBits(6), Float.floatToIntBits(24.0f / 136.0f));
        due(x.shareBits(3), 0);
        noSuchObject(x, object -> x.shareBits(object));
        HeapBrowser y = new HeapBrowser();
        int total = 0;
        for (int object = 0; object < 40; object++) {
            y.newArray(object * 5 % 9);
            y.addRoot(object, 0);
            total += y.objectInfo(object, 2);
            due(y.shareBits(object), Float.floatToIntBits((float) y.objectInfo(object, 2) / (float) total));
        }
    }

    private static void promise35() {
        // 0 retains 5 of 8 objects, 1 of them 4, and 2 of these 2; 5 retains 2; 7 is alone.
        HeapBrowser x = graph(9, numbers(0, 5, 7), 0, 1, 1, 2, 2, 3, 1, 4, 5, 6);
        due(x.suspectAt(50, 0), 1);
        due(x.suspectAt(50, 1), NONE);
        due(x.suspectAt(51, 0), 0);
        due(x.suspectAt(63, 0), NONE);
        due(x.suspectAt(25, 0), 2);
        due(x.suspectAt(25, 1), 5);
        due(x.suspectAt(25, 2), NONE);
        due(x.suspectAt(1, 0), 3);
        due(x.suspectAt(1, 1), 4);
        due(x.suspectAt(1, 2), 6);
        due(x.suspectAt(1, 3), 7);
        due(x.suspectAt(1, 4), NONE);
        due(x.suspectAt(1, -1), NONE);
        due(x.suspectAt(100, 0), NONE);
        due(new HeapBrowser().suspectAt(100, 0), NONE);
        HeapBrowser y = graph(2, numbers(1), 1, 0);
        due(y.suspectAt(50, 0), 0);
        due(y.suspectAt(50, 1), NONE);
        due(y.suspectAt(51, 0), 1);
        x.resizeArray(6, 0);
        due(x.suspectAt(1, 0), 3);
        due(x.suspectAt(1, 2), 7);
        due(x.suspectAt(1, 3), 6);
        refused(x, ARGUMENT, () -> x.suspectAt(0, 0));
        refused(x, ARGUMENT, () -> x.suspectAt(101, 0));
        for (int wild : WILD) {
            refused(x, ARGUMENT, () -> x.suspectAt(wild, 0));
            due(x.suspectAt(1, wild), NONE);
        }
    }

    private static void promise36() {
        HeapBrowser x = graph(9, numbers(0, 5), 0, 2, 2, 1, 2, 3, 3, 4, 1, 6, 5, 7);
        due(x.accumulationPoint(0, 100), 0);
        due(x.accumulationPoint(0, 83), 2);
        due(x.accumulationPoint(0, 84), 0);
        due(x.accumulationPoint(0, 50), 2);
        due(x.accumulationPoint(2, 40), 6);
        due(x.accumulationPoint(2, 41), 2);
        due(x.accumulationPoint(0, 1), 6);
        due(x.accumulationPoint(5, 50), 7);
        due(x.accumulationPoint(5, 51), 5);
        due(x.accumulationPoint(7, 1), 7);
        refused(x, STATE, () -> x.accumulationPoint(8, 1));
        refused(x, ARGUMENT, () -> x.accumulationPoint(8, 0));
        refused(x, ARGUMENT, () -> x.accumulationPoint(0, 101));
        refused(x, INDEX, () -> x.accumulationPoint(9, 0));
        refused(x, INDEX, () -> x.accumulationPoint(-1, 50));
        noSuchObject(x, object -> x.accumulationPoint(object, object));
        for (int wild : WILD) {
            refused(x, ARGUMENT, () -> x.accumulationPoint(0, wild));
        }
    }

    private static void promise37() {
        HeapBrowser x = new HeapBrowser();
        refused(x, ARGUMENT, () -> x.append(-1));
        refused(x, ARGUMENT, () -> x.append(128));
        for (int wild : WILD) {
            refused(x, ARGUMENT, () -> x.append(wild));
        }
        due(x.append(0), 1);
        due(x.append(127), 2);
        for (int length = 3; length <= 100; length++) {
            due(x.append('*'), length);
        }
        refused(x, STATE, () -> x.append('*'));
        refused(x, ARGUMENT, () -> x.append(128));
        refused(x, STATE, () -> x.undo());
    }

    private static void promise38() {
        HeapBrowser x = new HeapBrowser();
        due(x.clearText(), 0);
        write(x, "s>3");
        due(x.clearText(), 3);
        due(x.clearText(), 0);
        due(x.append('c'), 1);
        due(x.append(';'), 2);
        due(x.execute(), 1);
    }

    private static void promise39() {
        HeapBrowser x = groups();
        due(matches(x, "s=24"), 3);
        due(matches(x, "s>24"), 3);
        due(matches(x, "s<24"), 1);
        due(matches(x, "r=0"), 2);
        due(matches(x, "r=112"), 1);
        due(matches(x, "d=0"), 2);
        due(matches(x, "d=1"), 2);
        due(matches(x, "d=99"), 2);
        due(matches(x, "i=2"), 1);
        due(matches(x, "o=2"), 1);
        due(matches(x, "o=0"), 4);
        due(matches(x, "a=0"), 7);
        due(matches(x, "n<3"), 3);
        due(matches(x, "g=11"), 2);
        due(matches(x, "g>9"), 3);
        due(matches(x, "*"), 2);
        due(matches(x, "!*"), 5);
        due(matches(x, "!!*"), 2);
        due(matches(x, "@0"), 4);
        due(matches(x, "@1"), 3);
        due(matches(x, "@2"), 2);
        due(matches(x, "@3"), 0);
        due(matches(x, "!@9"), 7);
        due(matches(x, "n=0|n=1&n=2"), 1);
        due(matches(x, "(n=0|n=1)&n=0"), 1);
        due(matches(x, "!n=0&n<2"), 1);
        due(matches(x, "!(n=0&n<2)"), 6);
        due(matches(x, "n>0003"), 3);
        due(matches(x, "((((((((*))))))))"), 2);
        due(matches(new HeapBrowser(), "n=0|!*"), 0);
        x.collect();
        due(matches(x, "a=1"), 5);
        filterErrors(x);
        StringBuilder signs = new StringBuilder();
        for (int i = 0; i < 99; i++) {
            signs.append('!');
        }
        due(matches(x, signs + "*"), 3);
        due(matches(x, signs + "!"), -110);
    }

    private static void filterErrors(HeapBrowser x) {
        due(matches(x, ""), -10);
        due(matches(x, "s"), -11);
        due(matches(x, "s>"), -12);
        due(matches(x, "s>x"), -12);
        due(matches(x, "s>="), -12);
        due(matches(x, "s5"), -11);
        due(matches(x, "s>12345"), -16);
        due(matches(x, "s>12345678"), -16);
        due(matches(x, "@"), -11);
        due(matches(x, "@x"), -11);
        due(matches(x, "@12"), -12);
        due(matches(x, "*)"), -11);
        due(matches(x, ")"), -10);
        due(matches(x, "(*"), -12);
        due(matches(x, "(*&)"), -13);
        due(matches(x, "()"), -11);
        due(matches(x, "**"), -11);
        due(matches(x, "*|"), -12);
        due(matches(x, "*||*"), -12);
        due(matches(x, "* "), -11);
        due(matches(x, " *"), -10);
        due(matches(x, "x=1"), -10);
        due(matches(x, "*!"), -11);
        due(matches(x, "!"), -11);
        due(matches(x, "(((((((((*)))))))))"), -18);
        due(matches(x, "(((((((((" ), -18);
        due(matches(x, "(((((((!(!(*"), -20);
        due(matches(x, "(((((((("), -18);
        due(matches(x, "" + (char) 0), -10);
        due(matches(x, "" + (char) 127), -10);
    }

    private static void promise40() {
        HeapBrowser x = groups();
        write(x, "s=24|d=99");
        due(x.matchAt(0), 0);
        due(x.matchAt(1), 1);
        due(x.matchAt(2), 3);
        due(x.matchAt(3), 5);
        due(x.matchAt(4), 6);
        due(x.matchAt(5), NONE);
        due(x.matchAt(-1), NONE);
        for (int wild : WILD) {
            due(x.matchAt(wild), NONE);
        }
        write(x, "s=24|");
        due(x.matchAt(0), -15);
        due(x.matchAt(-1), -15);
        due(x.matchAt(99), -15);
        x.clearText();
        due(x.matchAt(0), -10);
    }

    private static void promise41() {
        HeapBrowser x = groups();
        write(x, "@0");
        due(x.matchSize(false), 104);
        due(x.matchSize(true), 112);
        write(x, "n=0");
        due(x.matchSize(false), 16);
        due(x.matchSize(true), 0);
        write(x, "n=4|n=2");
        due(x.matchSize(false), 64);
        due(x.matchSize(true), 88);
        write(x, "n>39");
        due(x.matchSize(false), 0);
        due(x.matchSize(true), 0);
        HeapBrowser y = graph(2, numbers(0), 0, 1);
        write(y, "n>1");
        due(y.matchSize(true), 0);
        write(x, "n=4|!");
        due(x.matchSize(false), -15);
        due(x.matchSize(true), -15);
    }

    private static void promise42() {
        HeapBrowser x = new HeapBrowser();
        due(x.execute(), 0);
        due(x.undo(), 0);
        due(execute(x, "n0;a2;w;s1,0,0;s1,1,2;s2,0,1;+1,2;+1,0;-1,2;c;s1,1,-;"), 11);
        due(x.clearText(), 53);
        due(x.objects(), 3);
        due(x.get(1, 0), 0);
        due(x.get(1, 1), NONE);
        due(x.referent(2), 1);
        due(x.objectInfo(1, 5), 1);
        due(x.objectInfo(1, 3), 1);
        due(x.undo(), 0);
        due(x.objects(), 0);
        due(x.newArray(1), 0);
        due(x.objectInfo(0, 1), 1);
        due(execute(x, "s00,00,00;"), 1);
        due(x.get(0, 0), 0);
        commandRefused(x, "n0;n1;", 1);
        commandRefused(x, "a9;", 0);
        commandRefused(x, "w;w;s0,1,0;", 2);
        commandRefused(x, "s0,0,9;", 0);
        commandRefused(x, "s40,0,-;", 0);
        commandRefused(x, "s99,0,99;", 0);
        commandRefused(x, "+0,0;+0,3;", 1);
        commandRefused(x, "+1,0;", 0);
        commandRefused(x, "-0,0;", 0);
        commandRefused(x, "+0,1;-0,1;-0,1;", 2);
        commandRefused(x, "-0,99;", 0);
        commandRefused(x, "c;+0,0;", 1);
        StringBuilder holders = new StringBuilder();
        for (int i = 0; i < 50; i++) {
            holders.append("w;");
        }
        commandRefused(x, holders.toString(), 39);
        commandErrors(x);
        for (int i = 0; i < 7; i++) {
            due(execute(x, "c;"), 1);
        }
        due(x.undo(), 4);
    }

    private static void commandRefused(HeapBrowser x, String commands, int index) {
        write(x, commands);
        long before = x.digest();
        due(x.execute(), -1000 - index);
        due(x.digest(), before);
    }

    private static void commandErrors(HeapBrowser x) {
        x.clearText();
        long before = x.digest();
        due(execute(x, "n"), -11);
        due(execute(x, "n0"), -12);
        due(execute(x, "n10;"), -12);
        due(execute(x, "nx;"), -11);
        due(execute(x, "a"), -11);
        due(execute(x, "a12;"), -12);
        due(execute(x, "w"), -11);
        due(execute(x, "w1;"), -11);
        due(execute(x, "c;;"), -12);
        due(execute(x, ";"), -10);
        due(execute(x, " c;"), -10);
        due(execute(x, "s"), -11);
        due(execute(x, "s0"), -12);
        due(execute(x, "s000,"), -13);
        due(execute(x, "s0;"), -12);
        due(execute(x, "s0,"), -13);
        due(execute(x, "s0,-"), -13);
        due(execute(x, "s0,123"), -15);
        due(execute(x, "s0,0;"), -14);
        due(execute(x, "s0,0,;"), -15);
        due(execute(x, "s0,0,--;"), -16);
        due(execute(x, "s0,0,-1;"), -16);
        due(execute(x, "s0,0,123;"), -17);
        due(execute(x, "s0,0,12"), -17);
        due(execute(x, "+0"), -12);
        due(execute(x, "+0,0,"), -14);
        due(execute(x, "+0,000;"), -15);
        due(execute(x, "--;"), -11);
        due(execute(x, "-0,-;"), -13);
        due(execute(x, "d;"), -10);
        due(execute(x, "w;w;w;*"), -16);
        due(execute(x, "-0,0;x"), -15);
        due(execute(x, "" + (char) 0), -10);
        x.clearText();
        due(x.digest(), before);
    }

    private static void promise43() {
        HeapBrowser x = groups();
        due(x.take(0), 7);
        due(x.take(1), 7);
        x.newArray(0);
        due(x.take(1), 8);
        due(x.compare(0, 0), 1);
        due(x.compare(1, 0), 0);
        refused(x, INDEX, () -> x.take(2));
        refused(x, INDEX, () -> x.take(-1));
        for (int wild : WILD) {
            refused(x, INDEX, () -> x.take(wild));
        }
        // A picture is no part of what undo restores, and is not undoable.
        due(x.undo(), 4);
        due(x.compare(1, 1), 1);
        HeapBrowser y = new HeapBrowser();
        due(y.take(0), 0);
        due(y.compare(0, 0), 0);
        refused(y, STATE, () -> y.undo());
    }

    private static void promise44() {
        HeapBrowser x = groups();
        x.take(1);
        refused(x, STATE, () -> x.compare(0, 0));
        refused(x, ARGUMENT, () -> x.compare(0, 4));
        refused(x, ARGUMENT, () -> x.compare(1, -1));
        refused(x, INDEX, () -> x.compare(2, 4));
        refused(x, INDEX, () -> x.compare(-1, 0));
        for (int wild : WILD) {
            refused(x, INDEX, () -> x.compare(wild, wild));
            refused(x, ARGUMENT, () -> x.compare(0, wild));
        }
        for (int what = 0; what <= 3; what++) {
            due(x.compare(1, what), 0);
        }
        due(x.collect(), 48);
        due(x.compare(1, 1), 2);
        due(x.compare(1, 3), -48);
        due(x.compare(1, 2), 0);
        x.newArray(8);
        due(x.compare(1, 0), 1);
        due(x.compare(1, 3), 0);
        x.set(1, 0, 0);
        due(x.compare(1, 2), 1);
        x.set(1, 0, NONE);
        due(x.compare(1, 2), 1);
        x.set(1, 0, 2);
        due(x.compare(1, 2), 0);
        x.set(5, 0, 5);
        due(x.compare(1, 2), 1);
        due(x.compare(1, 0), 1);
        x.resizeArray(4, 4);
        due(x.compare(1, 2), 2);
        x.addRoot(6, 0);
        due(x.compare(1, 2), 3);
        due(x.compare(1, 0), 1);
        serialsDecide();
        sizesAsTheyWere();
    }

    /** The number of an object may pass to another one, and an undone serial number too. */
    private static void serialsDecide() {
        HeapBrowser x = graph(3, numbers(0, 2), 0, 2);
        x.take(0);
        x.set(0, 0, NONE);
        x.removeRoot(2, 0);
        x.collect();
        x.newArray(8);
        x.newArray(8);
        x.set(0, 0, 2);
        due(x.compare(0, 0), 2);
        due(x.compare(0, 1), 2);
        due(x.compare(0, 2), 1);
        HeapBrowser y = new HeapBrowser();
        y.newArray(1);
        y.newHolder();
        y.take(0);
        y.undo();
        due(y.compare(0, 1), 1);
        y.newInstance(0);
        due(y.compare(0, 1), 0);
        due(y.compare(0, 2), 1);
        y.undo();
        y.newArray(1);
        due(y.compare(0, 2), 0);
    }

    /** The class of an object in a picture may have been undone, and defined anew with another size. */
    private static void sizesAsTheyWere() {
        HeapBrowser x = new HeapBrowser();
        x.defineClass(0, 0, 40);
        x.newInstance(1);
        x.take(0);
        x.undo();
        x.undo();
        due(x.compare(0, 3), -56);
        x.defineClass(0, 0, 0);
        x.newInstance(1);
        due(x.compare(0, 3), 16 - 56);
    }

    private static void promise45() {
        HeapBrowser x = groups();
        x.take(0);
        x.newHolder();
        x.newHolder();
        x.newInstance(1);
        due(x.growth(0, 11), 2);
        due(x.growth(0, 1), 1);
        due(x.growth(0, 0), 0);
        due(x.growth(0, 10), 0);
        due(x.growth(0, 9), 0);
        x.collect();
        due(x.growth(0, 2), -1);
        due(x.growth(0, 0), -1);
        due(x.growth(0, 11), 0);
        refused(x, STATE, () -> x.growth(1, 0));
        refused(x, INDEX, () -> x.growth(1, 12));
        refused(x, INDEX, () -> x.growth(0, -1));
        refused(x, INDEX, () -> x.growth(2, 0));
        refused(x, INDEX, () -> x.growth(-1, 0));
        for (int wild : WILD) {
            refused(x, INDEX, () -> x.growth(wild, 0));
            refused(x, INDEX, () -> x.growth(1, wild));
        }
    }

    private static void promise46() {
        HeapBrowser x = new HeapBrowser();
        refused(x, STATE, () -> x.undo());
        for (int step = 0; step < 9; step++) {
            x.newArray(step);
        }
        for (int step = 0; step < 5; step++) {
            due(x.undo(), 4 - step);
            due(x.objects(), 8 - step);
        }
        refused(x, STATE, () -> x.undo());
        HeapBrowser y = new HeapBrowser();
        for (int step = 0; step < 9; step++) {
            y.newArray(step);
        }
        due(execute(y, "w;n9;"), -1001);
        for (int step = 0; step < 5; step++) {
            due(y.undo(), 4 - step);
            due(y.objects(), 8 - step);
        }
        due(x.newArray(1), 4);
        due(x.objectInfo(4, 1), 5);
        x.append('*');
        due(x.undo(), 0);
        due(x.clearText(), 1);
        // Calls that are not undoable save nothing.
        x.take(0);
        x.matches();
        x.digest();
        x.distance(0);
        x.freedByUnrooting(0);
        refused(x, STATE, () -> x.undo());
        due(x.addRoot(0, 0), 1);
        due(x.defineClass(0, 1, 1), 1);
        due(x.collect(), 24 + 24 + 32);
        due(x.undo(), 2);
        due(x.distance(1), NONE);
        due(x.undo(), 1);
        due(x.classes(), 1);
        due(x.undo(), 0);
        due(x.distance(0), NONE);
    }

    private static long hash(int... values) {
        long h = 1759;
        for (int v : values) {
            h = 31 * h + v;
        }
        return h;
    }

    private static void promise47() {
        HeapBrowser x = new HeapBrowser();
        due(x.digest(), hash(1, -1, 0, 16, 0, 0));
        x.append('*');
        due(x.digest(), hash(1, -1, 0, 16, 1, 0));
        x.defineClass(0, 1, 1);
        due(x.digest(), hash(2, -1, 0, 16, 0, 1, 24, 1, 1));
        x.newInstance(1);
        x.newArray(2);
        x.newHolder();
        x.set(1, 1, 0);
        x.set(0, 0, 1);
        x.addRoot(1, 1);
        x.clearText();
        due(x.digest(), hash(2, -1, 0, 16, 0, 1, 24,
                0, 1, 1, 24, 0, 1, 0, 1, 1, 1, 24, 0,
                1, 10, 2, 24, 0, 2, 2, -1, 0, 0, -1, 48, 0,
                2, 11, 3, 24, 0, 1, 0, -1, -1, -1, 0, 2,
                0, 5));
        x.collect();
        due(x.digest(), hash(2, -1, 0, 16, 0, 1, 24,
                0, 1, 1, 24, 1, 1, 0, 1, 1, 1, 24, 0,
                1, 10, 2, 24, 1, 2, 2, -1, 0, 0, -1, 48, 0,
                0, 5));
        long before = x.digest();
        x.newArray(0);
        due(x.digest() == before, false);
        x.undo();
        x.addRoot(1, 1);
        due(x.digest(), before);
    }

    private static void example1() {
        HeapBrowser x = new HeapBrowser();
        due(x.newArray(2), 0);
        due(x.newArray(1), 1);
        due(x.newArray(0), 2);
        due(x.set(0, 0, 1), -1);
        due(x.set(0, 1, 2), -1);
        due(x.set(1, 0, 2), -1);
        due(x.addRoot(0, 0), 1);
        due(x.dominator(2), 0);
        due(x.retainedSize(1), 24);
        due(x.retainedSize(0), 64);
        due(x.freedByClearing(0, 1), 0);
    }

    private static void example2() {
        HeapBrowser x = new HeapBrowser();
        due(x.newArray(1), 0);
        due(x.newHolder(), 1);
        due(x.set(1, 0, 0), -1);
        due(x.addRoot(1, 0), 1);
        due(x.distance(0), -1);
        due(x.collect(), 24);
        due(x.referent(1), -1);
    }

    private static void example3() {
        HeapBrowser x = new HeapBrowser();
        due(x.defineClass(0, 2, 5), 1);
        due(x.classInfo(1, 2), 32);
        due(x.newInstance(1), 0);
        due(x.newInstance(1), 1);
        due(x.set(0, 0, 1), -1);
        due(x.set(0, 1, 1), -1);
        due(x.set(1, 0, 0), -1);
        due(x.objectInfo(1, 7), 2);
        due(x.component(1), 0);
    }

    private static void example4() {
        HeapBrowser x = new HeapBrowser();
        due(x.newArray(0), 0);
        int[] bytes = {43, 48, 44, 48, 59, 115, 48, 44, 48, 44, 48, 59};
        for (int i = 0; i < bytes.length; i++) {
            due(x.append(bytes[i]), i + 1);
        }
        due(x.execute(), -1001);
        due(x.objectInfo(0, 5), 0);
    }

    private static void example5() {
        HeapBrowser x = new HeapBrowser();
        due(x.newArray(0), 0);
        due(x.newArray(3), 1);
        due(x.addRoot(1, 1), 2);
        int[] bytes = {115, 62, 49, 54, 38, 42};
        for (int i = 0; i < bytes.length; i++) {
            due(x.append(bytes[i]), i + 1);
        }
        due(x.matches(), 1);
        due(x.matchAt(0), 1);
        due(x.shareBits(1), 1065353216);
    }

    private static void example6() {
        HeapBrowser x = new HeapBrowser();
        due(x.newHolder(), 0);
        due(x.take(0), 1);
        due(x.addRoot(0, 0), 1);
        due(x.compare(0, 2), 1);
        due(x.growth(0, 11), 0);
        refused(x, STATE, () -> x.compare(1, 0));
    }

    private static void run(String name, Call call) {
        part = name;
        checks = 0;
        try {
            call.make();
        } catch (RuntimeException e) {
            wrong++;
            System.out.println(part + ", check " + checks + ": threw " + e + " at " + e.getStackTrace()[0]);
        }
    }

    public static void main(String[] args) {
        Call[] promises = {
            PromiseTests::promise1, PromiseTests::promise2, PromiseTests::promise3, PromiseTests::promise4,
            PromiseTests::promise5, PromiseTests::promise6, PromiseTests::promise7, PromiseTests::promise8,
            PromiseTests::promise9, PromiseTests::promise10, PromiseTests::promise11, PromiseTests::promise12,
            PromiseTests::promise13, PromiseTests::promise14, PromiseTests::promise15, PromiseTests::promise16,
            PromiseTests::promise17, PromiseTests::promise18, PromiseTests::promise19, PromiseTests::promise20,
            PromiseTests::promise21, PromiseTests::promise22, PromiseTests::promise23, PromiseTests::promise24,
            PromiseTests::promise25, PromiseTests::promise26, PromiseTests::promise27, PromiseTests::promise28,
            PromiseTests::promise29, PromiseTests::promise30, PromiseTests::promise31, PromiseTests::promise32,
            PromiseTests::promise33, PromiseTests::promise34, PromiseTests::promise35, PromiseTests::promise36,
            PromiseTests::promise37, PromiseTests::promise38, PromiseTests::promise39, PromiseTests::promise40,
            PromiseTests::promise41, PromiseTests::promise42, PromiseTests::promise43, PromiseTests::promise44,
            PromiseTests::promise45, PromiseTests::promise46, PromiseTests::promise47};
        for (int i = 0; i < promises.length; i++) {
            run("promise " + (i + 1), promises[i]);
        }
        Call[] examples = {
            PromiseTests::example1, PromiseTests::example2, PromiseTests::example3,
            PromiseTests::example4, PromiseTests::example5, PromiseTests::example6};
        for (int i = 0; i < examples.length; i++) {
            run("example " + (i + 1), examples[i]);
        }
        System.out.println(wrong == 0 ? "all promises and examples hold" : wrong + " checks failed");
        if (wrong != 0) {
            System.exit(1);
        }
    }
}
