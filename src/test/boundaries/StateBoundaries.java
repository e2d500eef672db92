import java.math.BigInteger;

/** The sentences of UNDO and EXCEPTIONS and of promises 46 and 47. */
final class StateBoundaries extends Boundaries {
    static void tell(Sentences book) {
        savedStates(book);
        whichException(book);
        changesNothing(book);
        noneOnly(book);
        undo(book);
        digest(book);
    }

    /** Makes an undoable call where three states are saved, and takes it back: all is as before it. */
    private static void savesOne(Pair x, Pair.Call call) {
        Pair y = x.another();
        y.does(h -> h.newArray(1), h -> h.newHolder(), h -> h.addRoot(0, 0));
        long before = y.answer(h -> h.digest());
        y.does(call);
        y.due(3, h -> h.undo());
        y.due(before, h -> h.digest());
    }

    /** Makes a call that is not undoable: what undo takes back is the call before it. */
    private static void savesNone(Pair x, Pair.Call call) {
        Pair y = x.another();
        y.does(h -> h.newArray(1), h -> h.newHolder(), h -> h.addRoot(0, 0), h -> h.take(0));
        y.does(call);
        y.due(2, h -> h.undo());
        y.due(0, h -> h.objectInfo(0, 5));
    }

    private static void savedStates(Sentences book) {
        book.in("UNDO");
        book.says("Each successful call of a method that is described as undoable saves the state before the call, even if nothing changes.", x -> {
            savesOne(x, h -> h.defineClass(0, 3, 40));
            savesOne(x, h -> h.newInstance(0));
            savesOne(x, h -> h.newArray(8));
            savesOne(x, h -> h.newHolder());
            savesOne(x, h -> h.set(0, 0, 1));
            savesOne(x, h -> h.resizeArray(0, 8));
            savesOne(x, h -> h.addRoot(0, 1));
            savesOne(x, h -> h.removeRoot(0, 0));
            savesOne(x, h -> h.collect());
            savesOne(x, h -> h.populate(0, 38));
            // Nothing changes.
            savesOne(x, h -> h.set(0, 0, NONE));
            savesOne(x, h -> h.resizeArray(0, 1));
            savesOne(x, h -> h.addRoot(0, 0));
            savesOne(x, h -> h.execute());
            Pair empty = x.another();
            empty.due(0, h -> h.collect());
            empty.due(0, h -> h.undo());
            // A refused call saves nothing, nor does one of another method.
            Pair refused = x.another();
            refused.does(h -> h.newArray(1));
            refused.refused(INDEX, h -> h.set(0, 1, 0));
            refused.refused(STATE, h -> h.removeRoot(0, 0));
            refused.due(0, h -> h.undo());
            refused.refused(STATE, h -> h.undo());
            savesNone(x, h -> h.take(1));
            savesNone(x, h -> h.append('*'));
            savesNone(x, h -> h.clearText());
            savesNone(x, h -> h.matches());
            savesNone(x, h -> h.freedByClearing(0, 0));
            savesNone(x, h -> h.freedByUnrooting(0));
            savesNone(x, h -> h.compare(0, 2));
            savesNone(x, h -> h.digest());
        });
        book.says("At most 5 states are saved; the oldest one is dropped first.", x -> {
            x.arrays(5, 0);
            x.due(4, h -> h.undo());
            x.does(h -> h.newArray(0), h -> h.newArray(0));
            // Of the 6 states the one without objects was dropped.
            for (int i = 4; i >= 0; i--) {
                int left = i;
                x.due(left, h -> h.undo());
                x.due(left + 1, h -> h.objects());
            }
            x.refused(STATE, h -> h.undo());
            x.due(1, h -> h.objects());
            Pair many = x.another();
            many.arrays(40, 0);
            for (int i = 4; i >= 0; i--) {
                int left = i;
                many.due(left, h -> h.undo());
                many.due(left + 35, h -> h.objects());
            }
            many.refused(STATE, h -> h.undo());
        });
        book.says("The state consists of the classes, the objects and the next serial number.", x -> {
            x.does(h -> h.newArray(2), h -> h.set(0, 0, 0), h -> h.addRoot(0, 1), h -> h.collect());
            x.does(h -> h.defineClass(0, 3, 5), h -> h.populate(7, 39));
            x.due(4, h -> h.undo());
            x.due(3, h -> h.undo());
            x.due(1, h -> h.classes());
            x.due(1, h -> h.objects());
            x.due(0, h -> h.get(0, 0));
            x.due(NONE, h -> h.get(0, 1));
            x.due(2, h -> h.objectInfo(0, 5));
            x.due(1, h -> h.objectInfo(0, 3));
            x.due(2, h -> h.undo());
            x.due(0, h -> h.objectInfo(0, 3));
            x.due(1, h -> h.newHolder());
            x.due(2, h -> h.objectInfo(1, 1));
            // The text and the pictures are no part of it.
            Pair y = x.another();
            y.does(h -> h.newArray(0), h -> h.append('*'), h -> h.take(0), h -> h.undo());
            y.due(1, h -> h.compare(0, 1));
            y.due(1, h -> h.clearText());
            // All 40 objects come back with all that is theirs.
            Pair full = x.another();
            full.does(h -> h.defineClass(0, 3, 5), h -> h.populate(5, 40));
            long before = full.answer(h -> h.digest());
            full.does(h -> h.collect());
            full.due(2, h -> h.undo());
            full.due(before, h -> h.digest());
        });
    }

    private static void whichException(Sentences book) {
        book.in("EXCEPTIONS");
        book.says("If several exceptions apply, the one that is listed first is thrown.", x -> {
            for (int number = 1; number <= 9; number++) {
                x.does(h -> h.defineClass(0, 3, 0));
            }
            x.refused(INDEX, h -> h.defineClass(10, 4, 0));
            x.refused(INDEX, h -> h.defineClass(-1, 0, 0));
            x.refused(ARGUMENT, h -> h.defineClass(1, 3, 0));
            x.refused(ARGUMENT, h -> h.defineClass(0, 0, 41));
            x.refused(INDEX, h -> h.classInfo(10, 4));
            x.refused(INDEX, h -> h.addRoot(0, 3));
            x.refused(INDEX, h -> h.removeRoot(0, 3));
            x.refused(INDEX, h -> h.objectInfo(0, 8));
            x.refused(INDEX, h -> h.resizeArray(0, 9));
            x.refused(INDEX, h -> h.accumulationPoint(0, 0));
            x.refused(INDEX, h -> h.group(12, 4, true));
            x.refused(INDEX, h -> h.compare(2, 4));
            x.refused(ARGUMENT, h -> h.compare(0, 4));
            x.refused(INDEX, h -> h.growth(0, 12));
            x.does(h -> h.newHolder());
            x.refused(ARGUMENT, h -> h.resizeArray(0, 9));
            x.refused(ARGUMENT, h -> h.removeRoot(0, 3));
            x.refused(ARGUMENT, h -> h.accumulationPoint(0, 0));
            x.does(h -> h.populate(0, 39));
            x.refused(INDEX, h -> h.newInstance(10));
            x.refused(ARGUMENT, h -> h.newArray(9));
            x.refused(ARGUMENT, h -> h.populate(-1, 1));
            x.refused(ARGUMENT, h -> h.populate(0, 41));
            x.writes(times(100, "!"));
            x.refused(ARGUMENT, h -> h.append(128));
        });
    }

    /** Two pictures, a text, five saved states, all kinds of objects: what a refused call could spoil. */
    private static void rich(Pair x) {
        x.does(h -> h.defineClass(0, 3, 5), h -> h.newArray(8), h -> h.take(0), h -> h.newHolder(), h -> h.newInstance(1));
        x.does(h -> h.set(0, 0, 2), h -> h.set(1, 0, 2), h -> h.set(2, 0, 1), h -> h.addRoot(0, 1), h -> h.collect(), h -> h.take(1));
        x.does(h -> h.newArray(0), h -> h.set(0, 7, 3));
        x.writes("s0,1,1;w;");
    }

    private static void changesNothing(Sentences book) {
        book.says("A call that throws an exception changes nothing.", x -> {
            rich(x);
            x.refused(INDEX, h -> h.defineClass(2, 0, 0));
            x.refused(ARGUMENT, h -> h.defineClass(1, 3, 0));
            x.refused(INDEX, h -> h.classInfo(2, 0));
            x.refused(INDEX, h -> h.isSubclass(2, 0) ? 1 : 0);
            x.refused(INDEX, h -> h.newInstance(2));
            x.refused(ARGUMENT, h -> h.newArray(9));
            x.refused(INDEX, h -> h.set(0, 8, 1));
            x.refused(INDEX, h -> h.set(0, 0, 4));
            x.refused(INDEX, h -> h.get(3, 0));
            x.refused(ARGUMENT, h -> h.resizeArray(0, 9));
            x.refused(STATE, h -> h.resizeArray(1, 0));
            x.refused(STATE, h -> h.referent(0));
            x.refused(ARGUMENT, h -> h.addRoot(0, 3));
            x.refused(INDEX, h -> h.addRoot(4, 0));
            x.refused(STATE, h -> h.removeRoot(0, 0));
            x.refused(ARGUMENT, h -> h.objectInfo(0, 8));
            x.refused(ARGUMENT, h -> h.populate(-1, 1));
            x.refused(STATE, h -> h.populate(0, 37));
            Pair y = x.another();
            rich(y);
            y.refused(INDEX, h -> h.distance(4));
            y.refused(INDEX, h -> h.pathAt(4, 0));
            y.refused(INDEX, h -> h.dominates(0, 4) ? 1 : 0);
            y.refused(INDEX, h -> h.dominator(4));
            y.refused(INDEX, h -> h.depth(4));
            y.refused(INDEX, h -> h.dominatedAt(4, 0));
            y.refused(INDEX, h -> h.retainedSize(4));
            y.refused(INDEX, h -> h.retainedObjects(4));
            y.refused(INDEX, h -> h.component(4));
            y.refused(INDEX, h -> h.componentSize(4));
            y.refused(INDEX, h -> h.freedByClearing(0, 8));
            y.refused(INDEX, h -> h.freedByUnrooting(4));
            y.refused(ARGUMENT, h -> h.group(0, 4, true));
            y.refused(INDEX, h -> h.meanRetainedBits(2));
            y.refused(INDEX, h -> h.shareBits(4));
            y.refused(ARGUMENT, h -> h.suspectAt(0, 0));
            y.refused(ARGUMENT, h -> h.accumulationPoint(0, 0));
            y.refused(ARGUMENT, h -> h.append(128));
            y.refused(INDEX, h -> h.take(2));
            y.refused(ARGUMENT, h -> h.compare(0, 4));
            y.refused(INDEX, h -> h.growth(0, 12));
            full(x.another());
        });
    }

    /** What is refused only where there is no room any more, or nothing to take back. */
    private static void full(Pair x) {
        x.refused(STATE, h -> h.undo());
        rich(x);
        x.does(h -> h.populate(1, 36));
        x.writes(times(99, "!") + "*");
        x.refused(STATE, h -> h.newInstance(1));
        x.refused(STATE, h -> h.newArray(8));
        x.refused(STATE, h -> h.newHolder());
        x.refused(STATE, h -> h.populate(0, 1));
        x.refused(STATE, h -> h.append('*'));
    }

    private static void noneOnly(Sentences book) {
        book.says("NONE is returned only if no exception applies.", x -> {
            x.does(h -> h.newArray(1), h -> h.newHolder(), h -> h.addRoot(0, 0));
            x.refused(INDEX, h -> h.set(0, 1, 0));
            x.refused(INDEX, h -> h.get(0, 1));
            x.refused(INDEX, h -> h.get(NONE, 0));
            x.refused(INDEX, h -> h.classInfo(NONE, 0));
            x.refused(INDEX, h -> h.referent(NONE));
            x.refused(INDEX, h -> h.distance(NONE));
            x.refused(INDEX, h -> h.pathAt(NONE, 0));
            x.refused(INDEX, h -> h.pathAt(2, 99));
            x.refused(INDEX, h -> h.dominator(NONE));
            x.refused(INDEX, h -> h.depth(NONE));
            x.refused(INDEX, h -> h.dominatedAt(2, 99));
            x.refused(ARGUMENT, h -> h.suspectAt(0, 99));
            x.refused(ARGUMENT, h -> h.suspectAt(101, -1));
            // Where none applies it is returned.
            x.due(NONE, h -> h.set(0, 0, NONE));
            x.due(NONE, h -> h.get(0, 0));
            x.due(NONE, h -> h.classInfo(0, 0));
            x.due(NONE, h -> h.referent(1));
            x.due(NONE, h -> h.distance(1));
            x.due(NONE, h -> h.pathAt(0, 99));
            x.due(NONE, h -> h.pathAt(1, 0));
            x.due(NONE, h -> h.dominator(0));
            x.due(NONE, h -> h.depth(1));
            x.due(NONE, h -> h.dominatedAt(0, 99));
            x.due(NONE, h -> h.suspectAt(1, 99));
        });
    }

    private static void undo(Sentences book) {
        book.in("Promise 46: undo");
        book.says("Restores the latest saved state and removes it from the saved ones.", x -> {
            long[] digests = new long[5];
            x.does(h -> h.newArray(8));
            Pair.Call[] calls = {h -> h.defineClass(0, 3, 5), h -> h.newInstance(1), h -> h.set(0, 7, 1), h -> h.addRoot(1, 2), h -> h.collect()};
            for (int i = 0; i < 5; i++) {
                // The number of saved states, the last of the values, is another one when the state comes back.
                digests[i] = x.answer(h -> h.digest()) - (i + 1);
                x.does(calls[i]);
            }
            for (int i = 4; i >= 0; i--) {
                long due = digests[i] + i;
                int left = i;
                x.due(left, h -> h.undo());
                x.due(due, h -> h.digest());
            }
            x.refused(STATE, h -> h.undo());
            // After it other calls save anew.
            x.does(h -> h.newHolder(), h -> h.newHolder(), h -> h.undo(), h -> h.newArray(0));
            x.due(1, h -> h.undo());
            x.due(2, h -> h.objects());
            x.due(11, h -> h.objectInfo(1, 0));
            x.due(0, h -> h.undo());
            x.due(1, h -> h.objects());
        });
        book.says("Returns the number of states that are still saved.", x -> {
            x.does(h -> h.newHolder());
            x.due(0, h -> h.undo());
            x.arrays(7, 0);
            for (int i = 4; i >= 0; i--) {
                int left = i;
                x.due(left, h -> h.undo());
            }
        });
        book.says("Throws `IllegalStateException` if no state is saved", x -> {
            x.refused(STATE, h -> h.undo());
            x.does(h -> h.append('*'), h -> h.take(0), h -> h.matches());
            x.refused(STATE, h -> h.undo());
            x.does(h -> h.newHolder(), h -> h.undo());
            x.refused(STATE, h -> h.undo());
            x.arrays(9, 0);
            x.does(h -> h.undo(), h -> h.undo(), h -> h.undo(), h -> h.undo(), h -> h.undo());
            x.refused(STATE, h -> h.undo());
            x.due(4, h -> h.objects());
        });
    }

    /** The document's sum, in numbers of any length. */
    private static final class Sum {
        private BigInteger h = BigInteger.valueOf(1759);

        void add(long value) {
            h = h.multiply(BigInteger.valueOf(31)).add(BigInteger.valueOf(value));
        }
    }

    private static Sum sum(Pair x, int textLength, int saved) {
        Sum sum = new Sum();
        int classes = (int) x.answer(h -> h.classes());
        sum.add(classes);
        for (int i = 0; i < classes * 3; i++) {
            int asked = i;
            sum.add(x.answer(h -> h.classInfo(asked / 3, asked % 3)));
        }
        for (int i = 0; i < 40; i++) {
            int object = i;
            if (x.answer(h -> h.exists(object) ? 1 : 0) == 1) {
                addObject(sum, x, object);
            }
        }
        sum.add(textLength);
        sum.add(saved);
        return sum;
    }

    private static void addObject(Sum sum, Pair x, int object) {
        sum.add(object);
        for (int i = 0; i <= 5; i++) {
            int what = i;
            sum.add(x.answer(h -> h.objectInfo(object, what)));
        }
        int slots = (int) x.answer(h -> h.objectInfo(object, 4));
        for (int i = 0; i < slots; i++) {
            int slot = i;
            sum.add(x.answer(h -> h.get(object, slot)));
        }
        sum.add(x.answer(h -> h.distance(object)));
        sum.add(x.answer(h -> h.dominator(object)));
        sum.add(x.answer(h -> h.retainedSize(object)));
        sum.add(x.answer(h -> h.component(object)));
    }

    private static void digest(Sentences book) {
        book.in("Promise 47: digest");
        book.plain("Returns a hash of the state.");
        book.says("Start with h = 1759 and, for each of the following values v, set h = 31 * h + v: the number of classes, and for each class the "
                + "values of classInfo() for what = 0 to 2; for each object, in ascending order of the numbers, its number, the values of "
                + "objectInfo() for what = 0 to 5, what its slots contain, in order (NONE for an empty one), its distance, its immediate dominator "
                + "(NONE if there is none), its retained size and its component; the length of the text; the number of saved states.", x -> {
            // 1759, then 1, -1, 0, 16, 0, 0.
            long fresh = ((((((1759L * 31 + 1) * 31 - 1) * 31) * 31 + 16) * 31) * 31);
            x.due(fresh, h -> h.digest());
            x.does(h -> h.append('*'));
            x.due(fresh + 31, h -> h.digest());
            x.does(h -> h.clearText(), h -> h.collect());
            x.due(fresh + 1, h -> h.digest());
            Pair y = x.another();
            rich(y);
            y.due(sum(y, 9, 5).h.longValue(), h -> h.digest());
            // What is asked and taken leaves no trace.
            y.does(h -> h.take(0), h -> h.matches());
            y.due(sum(y, 9, 5).h.longValue(), h -> h.digest());
            Pair drawn = x.another();
            drawn.does(h -> h.defineClass(0, 2, 9), h -> h.populate(77, 18));
            drawn.due(sum(drawn, 0, 2).h.longValue(), h -> h.digest());
        });
        book.says("Returns the hash, with the overflow of long arithmetic ignored.", x -> {
            rich(x);
            Sum sum = sum(x, 9, 5);
            x.yes(h -> sum.h.bitLength() > 63);
            x.due(sum.h.mod(BigInteger.ONE.shiftLeft(64)).longValue(), h -> h.digest());
        });
    }
}
