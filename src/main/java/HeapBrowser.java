import java.util.Arrays;

/** A browser for pictures of a garbage-collected heap; ../shared/DOC.md numbers what it promises. */
public final class HeapBrowser {
    /** There is no such thing. */
    public static final int NONE = -1;

    private static final int MOST_CLASSES = 10;
    private static final int MOST_FIELDS = 5;
    private static final int MOST_OWN_FIELDS = 3;
    private static final int MOST_OWN_DATA = 40;
    private static final int MOST_OBJECTS = 40;
    private static final int MOST_SLOTS = 8;
    private static final int MOST_AGE = 99;
    private static final int MOST_BYTES = 100;
    private static final int MOST_NESTED = 8;
    private static final int MOST_SAVED = 5;
    private static final int ROOT_KINDS = 3;
    private static final int PICTURES = 2;
    private static final int GREATEST_BYTE = 127;

    private static final int ARRAY = 10;
    private static final int HOLDER = 11;
    private static final int HOLDER_SIZE = 24;
    private static final int FAR = 99;

    // A check answers one of these, so that execute() can look ahead without an exception.
    private static final int FINE = 0;
    private static final int NO_SUCH_THING = 1;
    private static final int OUT_OF_RANGE = 2;
    private static final int WRONG_STATE = 3;

    private static final int SYNTAX_ERROR = -10;
    private static final int REFUSED_COMMAND = -1000;

    private final Heap heap;
    private final Analysis analysis;
    private final History history;
    private final Text text;
    private final Filter filter;
    private final Commands commands;
    private final Draw draw;
    private final Heap[] pictures;
    private final boolean[] taken;

    public HeapBrowser() {
        heap = new Heap();
        analysis = new Analysis(heap);
        history = new History();
        text = new Text();
        filter = new Filter(heap, analysis, text);
        commands = new Commands(heap, analysis, text);
        draw = new Draw();
        pictures = new Heap[PICTURES];
        for (int picture = 0; picture < PICTURES; picture++) {
            pictures[picture] = new Heap();
        }
        taken = new boolean[PICTURES];
    }

    // ---- classes

    public int defineClass(int superclass, int fields, int data)
            throws IndexOutOfBoundsException, IllegalArgumentException, IllegalStateException {
        refuse(heap.problemOfClass(superclass, fields, data));
        history.save(heap);
        return heap.addClass(superclass, fields, data);
    }

    public int classes() {
        return heap.classCount;
    }

    public int classInfo(int classNumber, int what) throws IndexOutOfBoundsException, IllegalArgumentException {
        refuse(problemOf(heap.hasClass(classNumber), what, 3));
        return heap.classFact(classNumber, what);
    }

    public boolean isSubclass(int classNumber, int other) throws IndexOutOfBoundsException {
        refuseUnless(heap.hasClass(classNumber) && heap.hasClass(other));
        return heap.isBelow(classNumber, other);
    }

    // ---- objects

    public int newInstance(int classNumber) throws IndexOutOfBoundsException, IllegalStateException {
        refuse(heap.problemOfInstance(classNumber));
        history.save(heap);
        return heap.addInstance(classNumber);
    }

    public int newArray(int length) throws IllegalArgumentException, IllegalStateException {
        refuse(heap.problemOfArray(length));
        history.save(heap);
        return heap.addArray(length);
    }

    public int newHolder() throws IllegalStateException {
        refuse(heap.problemOfHolder());
        history.save(heap);
        return heap.addHolder();
    }

    public int set(int object, int slot, int target) throws IndexOutOfBoundsException {
        refuse(heap.problemOfTarget(object, slot, target));
        history.save(heap);
        return heap.putTarget(object, slot, target);
    }

    public int get(int object, int slot) throws IndexOutOfBoundsException {
        refuseUnless(heap.hasSlot(object, slot));
        return heap.targetOf(object, slot);
    }

    public int resizeArray(int object, int length)
            throws IndexOutOfBoundsException, IllegalArgumentException, IllegalStateException {
        refuse(heap.problemOfLength(object, length));
        history.save(heap);
        return heap.putLength(object, length);
    }

    public int referent(int object) throws IndexOutOfBoundsException, IllegalStateException {
        refuseUnless(heap.hasObject(object));
        refuse(heap.group[object] == HOLDER ? FINE : WRONG_STATE);
        return heap.targetOf(object, 0);
    }

    public int addRoot(int object, int kind) throws IndexOutOfBoundsException, IllegalArgumentException {
        refuse(heap.problemOfRoot(object, kind));
        history.save(heap);
        return heap.putRoots(object, heap.roots[object] | 1 << kind);
    }

    public int removeRoot(int object, int kind)
            throws IndexOutOfBoundsException, IllegalArgumentException, IllegalStateException {
        refuse(heap.problemOfUnrooting(object, kind));
        history.save(heap);
        return heap.putRoots(object, heap.roots[object] & ~(1 << kind));
    }

    public int collect() {
        history.save(heap);
        return analysis.removeGarbage();
    }

    public int objects() {
        return heap.objectCount();
    }

    public boolean exists(int object) {
        return heap.hasObject(object);
    }

    public int objectInfo(int object, int what) throws IndexOutOfBoundsException, IllegalArgumentException {
        refuse(problemOf(heap.hasObject(object), what, 7));
        analysis.refresh();
        switch (what) {
            case 6: return analysis.outgoing[object];
            case 7: return analysis.incoming[object];
            default: return heap.objectFact(object, what);
        }
    }

    public int populate(int start, int count) throws IllegalArgumentException, IllegalStateException {
        refuse(start >= 0 && count >= 1 && count <= MOST_OBJECTS ? FINE : OUT_OF_RANGE);
        refuse(heap.objectCount() + count <= MOST_OBJECTS ? FINE : WRONG_STATE);
        history.save(heap);
        draw.begin(start);
        for (int made = 0; made < count; made++) {
            draw.addTo(heap);
        }
        return heap.objectCount();
    }

    // ---- reachability and dominators

    public int distance(int object) throws IndexOutOfBoundsException {
        refuseUnless(heap.hasObject(object));
        analysis.refresh();
        return analysis.search.steps[object];
    }

    public int pathAt(int object, int index) throws IndexOutOfBoundsException {
        refuseUnless(heap.hasObject(object));
        analysis.refresh();
        return analysis.search.pathObject(object, index);
    }

    public boolean dominates(int one, int other) throws IndexOutOfBoundsException {
        refuseUnless(heap.hasObject(one) && heap.hasObject(other));
        analysis.refresh();
        return contains(analysis.dominators[other], one);
    }

    public int dominator(int object) throws IndexOutOfBoundsException {
        refuseUnless(heap.hasObject(object));
        analysis.refresh();
        return analysis.immediate[object];
    }

    public int depth(int object) throws IndexOutOfBoundsException {
        refuseUnless(heap.hasObject(object));
        analysis.refresh();
        // An object that is not reachable has no dominators at all, not even itself: this gives NONE.
        return Long.bitCount(analysis.dominators[object]) - 1;
    }

    public int dominatedAt(int object, int index) throws IndexOutOfBoundsException {
        refuseUnless(object == NONE || heap.hasObject(object));
        analysis.refresh();
        return memberAt(analysis.children(object), index);
    }

    public int retainedSize(int object) throws IndexOutOfBoundsException {
        refuseUnless(heap.hasObject(object));
        analysis.refresh();
        return analysis.retained[object];
    }

    public int retainedObjects(int object) throws IndexOutOfBoundsException {
        refuseUnless(heap.hasObject(object));
        analysis.refresh();
        return Long.bitCount(analysis.dominatedBy(object));
    }

    public int component(int object) throws IndexOutOfBoundsException {
        refuseUnless(heap.hasObject(object));
        analysis.refresh();
        return analysis.components[object];
    }

    public int componentSize(int object) throws IndexOutOfBoundsException {
        refuseUnless(heap.hasObject(object));
        analysis.refresh();
        return analysis.sizeOfComponent(object);
    }

    // ---- what if, groups, suspects

    public int freedByClearing(int object, int slot) throws IndexOutOfBoundsException {
        refuseUnless(heap.hasSlot(object, slot));
        analysis.refresh();
        return analysis.lostWithoutSlot(object, slot);
    }

    public int freedByUnrooting(int object) throws IndexOutOfBoundsException {
        refuseUnless(heap.hasObject(object));
        analysis.refresh();
        return analysis.lostWithoutRoot(object);
    }

    public int group(int group, int what, boolean subclasses)
            throws IndexOutOfBoundsException, IllegalArgumentException {
        refuse(problemOf(heap.hasGroup(group), what, 3));
        analysis.refresh();
        long members = heap.membersOf(group, subclasses);
        switch (what) {
            case 0: return Long.bitCount(members);
            case 1: return Long.bitCount(members & analysis.search.found);
            case 2: return heap.sizeOfAll(members);
            default: return analysis.lostWithout(members);
        }
    }

    public long meanRetainedBits(int group) throws IndexOutOfBoundsException {
        refuseUnless(heap.hasGroup(group));
        analysis.refresh();
        long members = heap.membersOf(group, false) & analysis.search.found;
        int sum = 0;
        for (int object = 0; object < MOST_OBJECTS; object++) {
            sum += contains(members, object) ? analysis.retained[object] : 0;
        }
        return quotientBits(sum, Long.bitCount(members), 52, 1023);
    }

    public int shareBits(int object) throws IndexOutOfBoundsException {
        refuseUnless(heap.hasObject(object));
        analysis.refresh();
        return (int) quotientBits(analysis.retained[object], analysis.reachableSize, 23, 127);
    }

    public int suspectAt(int percent, int index) throws IllegalArgumentException {
        refuse(isPercent(percent) ? FINE : OUT_OF_RANGE);
        analysis.refresh();
        long suspects = analysis.suspects(percent);
        if (index < 0 || index >= Long.bitCount(suspects)) {
            return NONE;
        }
        int suspect = NONE;
        for (int place = 0; place <= index; place++) {
            suspect = analysis.greatest(suspects);
            suspects &= ~member(suspect);
        }
        return suspect;
    }

    public int accumulationPoint(int object, int percent)
            throws IndexOutOfBoundsException, IllegalArgumentException, IllegalStateException {
        refuseUnless(heap.hasObject(object));
        refuse(isPercent(percent) ? FINE : OUT_OF_RANGE);
        analysis.refresh();
        refuse(contains(analysis.search.found, object) ? FINE : WRONG_STATE);
        return analysis.accumulationFrom(object, percent);
    }

    // ---- texts

    public int append(int value) throws IllegalArgumentException, IllegalStateException {
        refuse(value >= 0 && value <= GREATEST_BYTE ? FINE : OUT_OF_RANGE);
        refuse(text.length < MOST_BYTES ? FINE : WRONG_STATE);
        text.add(value);
        return text.length;
    }

    public int clearText() {
        int length = text.length;
        text.length = 0;
        return length;
    }

    public int matches() {
        long matching = filter.apply();
        return text.failed ? SYNTAX_ERROR - text.at : Long.bitCount(matching);
    }

    public int matchAt(int index) {
        long matching = filter.apply();
        return text.failed ? SYNTAX_ERROR - text.at : memberAt(matching, index);
    }

    public int matchSize(boolean retained) {
        long matching = filter.apply();
        if (text.failed) {
            return SYNTAX_ERROR - text.at;
        }
        return retained ? analysis.lostWithout(matching) : heap.sizeOfAll(matching);
    }

    public int execute() {
        commands.read();
        if (text.failed) {
            return SYNTAX_ERROR - text.at;
        }
        history.note(heap);
        int refused = commands.run();
        if (refused != NONE) {
            heap.copyFrom(history.noted());
            return REFUSED_COMMAND - refused;
        }
        history.keepNoted();
        return commands.count;
    }

    // ---- pictures, state

    public int take(int picture) throws IndexOutOfBoundsException {
        refuseUnless(isPicture(picture));
        pictures[picture].copyFrom(heap);
        taken[picture] = true;
        return heap.objectCount();
    }

    public int compare(int picture, int what)
            throws IndexOutOfBoundsException, IllegalArgumentException, IllegalStateException {
        refuse(problemOf(isPicture(picture), what, 3));
        refuse(taken[picture] ? FINE : WRONG_STATE);
        Heap earlier = pictures[picture];
        switch (what) {
            case 0: return heap.countNotIn(earlier);
            case 1: return earlier.countNotIn(heap);
            case 2: return heap.countChangedSince(earlier);
            default: return heap.sizeOfAll(heap.allObjects()) - earlier.sizeOfAll(earlier.allObjects());
        }
    }

    public int growth(int picture, int group) throws IndexOutOfBoundsException, IllegalStateException {
        refuseUnless(isPicture(picture) && group >= 0 && group <= HOLDER);
        refuse(taken[picture] ? FINE : WRONG_STATE);
        return Long.bitCount(heap.membersOf(group, false)) - Long.bitCount(pictures[picture].membersOf(group, false));
    }

    public int undo() throws IllegalStateException {
        refuse(history.count > 0 ? FINE : WRONG_STATE);
        heap.copyFrom(history.latest());
        history.dropLatest();
        return history.count;
    }

    public long digest() {
        analysis.refresh();
        long hash = mixed(1759, heap.classCount);
        for (int number = 0; number < heap.classCount; number++) {
            for (int what = 0; what <= 2; what++) {
                hash = mixed(hash, heap.classFact(number, what));
            }
        }
        for (int object = 0; object < MOST_OBJECTS; object++) {
            if (heap.hasObject(object)) {
                hash = mixedWithObject(hash, object);
            }
        }
        return mixed(mixed(hash, text.length), history.count);
    }

    private long mixedWithObject(long before, int object) {
        long hash = mixed(before, object);
        for (int what = 0; what <= 5; what++) {
            hash = mixed(hash, heap.objectFact(object, what));
        }
        for (int slot = 0; slot < heap.slotCount[object]; slot++) {
            hash = mixed(hash, heap.targetOf(object, slot));
        }
        hash = mixed(hash, analysis.search.steps[object]);
        hash = mixed(hash, analysis.immediate[object]);
        hash = mixed(hash, analysis.retained[object]);
        return mixed(hash, analysis.components[object]);
    }

    private static long mixed(long hash, long value) {
        return 31 * hash + value;
    }

    // ---- checks

    private static void refuse(int problem) {
        switch (problem) {
            case NO_SUCH_THING: throw new IndexOutOfBoundsException();
            case OUT_OF_RANGE: throw new IllegalArgumentException();
            case WRONG_STATE: throw new IllegalStateException();
            default: break;
        }
    }

    private static void refuseUnless(boolean there) {
        refuse(there ? FINE : NO_SUCH_THING);
    }

    private static int problemOf(boolean there, int what, int greatest) {
        if (!there) {
            return NO_SUCH_THING;
        }
        return what >= 0 && what <= greatest ? FINE : OUT_OF_RANGE;
    }

    private static boolean isPercent(int percent) {
        return percent >= 1 && percent <= 100;
    }

    private static boolean isPicture(int picture) {
        return picture >= 0 && picture < PICTURES;
    }

    // ---- sets of objects: the bit with an object's number stands for it

    private static long member(int object) {
        return object >= 0 && object < MOST_OBJECTS ? 1L << object : 0;
    }

    private static boolean contains(long set, int object) {
        return object >= 0 && object < MOST_OBJECTS && (set >>> object & 1) == 1;
    }

    private static int memberAt(long set, int index) {
        if (index < 0) {
            return NONE;
        }
        int before = 0;
        for (int object = 0; object < MOST_OBJECTS; object++) {
            if (contains(set, object)) {
                if (before == index) {
                    return object;
                }
                before++;
            }
        }
        return NONE;
    }

    /**
     * The bits of a floating quotient of two small whole numbers, 0 if one of them is 0. The language has no
     * doubleToLongBits; a long division, rounded half to even, gives the same bits as the machine's quotient.
     */
    private static long quotientBits(long dividend, long divisor, int fractionBits, int bias) {
        if (dividend <= 0 || divisor <= 0) {
            return 0;
        }
        long rest = dividend;
        long unit = divisor;
        int exponent = bias;
        for (int step = 0; step < 32 && rest >= 2 * unit; step++) {
            unit *= 2;
            exponent++;
        }
        for (int step = 0; step < 32 && rest < unit; step++) {
            rest *= 2;
            exponent--;
        }
        rest -= unit;
        long fraction = 0;
        for (int bit = 0; bit < fractionBits; bit++) {
            rest *= 2;
            fraction *= 2;
            if (rest >= unit) {
                rest -= unit;
                fraction++;
            }
        }
        boolean up = 2 * rest > unit || 2 * rest == unit && (fraction & 1) == 1;
        // A fraction that becomes 1 by rounding carries into the exponent, as it should.
        return ((long) exponent << fractionBits) + fraction + (up ? 1 : 0);
    }

    /** The classes, the objects and the next serial number: what undo restores and a picture keeps. */
    private static final class Heap {
        private int classCount;
        private final int[] superclass = new int[MOST_CLASSES];
        // Fields and data count those of all classes above, too.
        private final int[] fields = new int[MOST_CLASSES];
        private final int[] data = new int[MOST_CLASSES];
        // NONE marks a number that is free.
        private final int[] group = new int[MOST_OBJECTS];
        private final int[] serial = new int[MOST_OBJECTS];
        private final int[] size = new int[MOST_OBJECTS];
        private final int[] slotCount = new int[MOST_OBJECTS];
        private final int[] age = new int[MOST_OBJECTS];
        private final int[] roots = new int[MOST_OBJECTS];
        private final int[] slots = new int[MOST_OBJECTS * MOST_SLOTS];
        private int nextSerial;
        // Tells an analysis that what it knows is out of date.
        private int version;

        Heap() {
            classCount = 1;
            superclass[0] = NONE;
            Arrays.fill(group, NONE);
            Arrays.fill(slots, NONE);
            nextSerial = 1;
        }

        void copyFrom(Heap other) {
            classCount = other.classCount;
            System.arraycopy(other.superclass, 0, superclass, 0, MOST_CLASSES);
            System.arraycopy(other.fields, 0, fields, 0, MOST_CLASSES);
            System.arraycopy(other.data, 0, data, 0, MOST_CLASSES);
            System.arraycopy(other.group, 0, group, 0, MOST_OBJECTS);
            System.arraycopy(other.serial, 0, serial, 0, MOST_OBJECTS);
            System.arraycopy(other.size, 0, size, 0, MOST_OBJECTS);
            System.arraycopy(other.slotCount, 0, slotCount, 0, MOST_OBJECTS);
            System.arraycopy(other.age, 0, age, 0, MOST_OBJECTS);
            System.arraycopy(other.roots, 0, roots, 0, MOST_OBJECTS);
            System.arraycopy(other.slots, 0, slots, 0, MOST_OBJECTS * MOST_SLOTS);
            nextSerial = other.nextSerial;
            version++;
        }

        boolean hasClass(int number) {
            return number >= 0 && number < classCount;
        }

        boolean hasGroup(int number) {
            return hasClass(number) || number == ARRAY || number == HOLDER;
        }

        boolean hasObject(int number) {
            return number >= 0 && number < MOST_OBJECTS && group[number] != NONE;
        }

        boolean hasSlot(int object, int slot) {
            return hasObject(object) && slot >= 0 && slot < slotCount[object];
        }

        int problemOfClass(int above, int ownFields, int ownData) {
            if (!hasClass(above)) {
                return NO_SUCH_THING;
            }
            boolean fits = ownFields >= 0 && ownFields <= MOST_OWN_FIELDS && ownData >= 0 && ownData <= MOST_OWN_DATA;
            if (!fits || fields[above] + ownFields > MOST_FIELDS) {
                return OUT_OF_RANGE;
            }
            return classCount < MOST_CLASSES ? FINE : WRONG_STATE;
        }

        int problemOfInstance(int number) {
            return hasClass(number) ? problemOfHolder() : NO_SUCH_THING;
        }

        int problemOfArray(int length) {
            return length >= 0 && length <= MOST_SLOTS ? problemOfHolder() : OUT_OF_RANGE;
        }

        int problemOfHolder() {
            return objectCount() < MOST_OBJECTS ? FINE : WRONG_STATE;
        }

        int problemOfTarget(int object, int slot, int target) {
            boolean there = hasSlot(object, slot) && (target == NONE || hasObject(target));
            return there ? FINE : NO_SUCH_THING;
        }

        int problemOfLength(int object, int length) {
            int problem = problemOf(hasObject(object), length, MOST_SLOTS);
            if (problem != FINE) {
                return problem;
            }
            return group[object] == ARRAY ? FINE : WRONG_STATE;
        }

        int problemOfRoot(int object, int kind) {
            return problemOf(hasObject(object), kind, ROOT_KINDS - 1);
        }

        int problemOfUnrooting(int object, int kind) {
            int problem = problemOfRoot(object, kind);
            if (problem != FINE) {
                return problem;
            }
            return (roots[object] >> kind & 1) == 1 ? FINE : WRONG_STATE;
        }

        int addClass(int above, int ownFields, int ownData) {
            if (classCount >= MOST_CLASSES || !hasClass(above)) {
                return NONE;
            }
            superclass[classCount] = above;
            fields[classCount] = fields[above] + ownFields;
            data[classCount] = data[above] + ownData;
            classCount++;
            version++;
            return classCount - 1;
        }

        int addInstance(int number) {
            return hasClass(number) ? addObject(number, fields[number], sizeOfInstance(number)) : NONE;
        }

        int addArray(int length) {
            return addObject(ARRAY, length, sizeOfArray(length));
        }

        int addHolder() {
            return addObject(HOLDER, 1, HOLDER_SIZE);
        }

        private int addObject(int itsGroup, int length, int bytes) {
            int object = lowestFree();
            if (object == NONE) {
                return NONE;
            }
            group[object] = itsGroup;
            serial[object] = nextSerial;
            nextSerial++;
            size[object] = bytes;
            slotCount[object] = length;
            age[object] = 0;
            roots[object] = 0;
            emptySlotsFrom(object, 0);
            version++;
            return object;
        }

        private int lowestFree() {
            for (int object = 0; object < MOST_OBJECTS; object++) {
                if (group[object] == NONE) {
                    return object;
                }
            }
            return NONE;
        }

        private void emptySlotsFrom(int object, int first) {
            for (int slot = first; slot < MOST_SLOTS; slot++) {
                slots[object * MOST_SLOTS + slot] = NONE;
            }
        }

        int targetOf(int object, int slot) {
            return hasSlot(object, slot) ? slots[object * MOST_SLOTS + slot] : NONE;
        }

        int putTarget(int object, int slot, int target) {
            if (!hasSlot(object, slot)) {
                return NONE;
            }
            int before = slots[object * MOST_SLOTS + slot];
            slots[object * MOST_SLOTS + slot] = target;
            version++;
            return before;
        }

        int putLength(int object, int length) {
            int before = slotCount[object];
            size[object] = sizeOfArray(length);
            slotCount[object] = length;
            emptySlotsFrom(object, length);
            version++;
            return before;
        }

        int putRoots(int object, int kinds) {
            roots[object] = kinds;
            version++;
            return kinds;
        }

        int removeAllBut(long kept) {
            int freed = sizeOfAll(allObjects() & ~kept);
            for (int object = 0; object < MOST_OBJECTS; object++) {
                if (!contains(kept, object)) {
                    group[object] = NONE;
                }
            }
            for (int object = 0; object < MOST_OBJECTS; object++) {
                if (group[object] != NONE) {
                    grow(object);
                }
            }
            version++;
            return freed;
        }

        private void grow(int object) {
            age[object] = Math.min(age[object] + 1, MOST_AGE);
            // Only a holder can contain what was removed: all others keep what they contain.
            if (group[object] == HOLDER && !hasObject(slots[object * MOST_SLOTS])) {
                emptySlotsFrom(object, 0);
            }
        }

        int classFact(int number, int what) {
            switch (what) {
                case 0: return superclass[number];
                case 1: return fields[number];
                case 2: return sizeOfInstance(number);
                default: return countBelow(number);
            }
        }

        private int countBelow(int number) {
            int count = 0;
            for (int other = 0; other < classCount; other++) {
                count += superclass[other] == number ? 1 : 0;
            }
            return count;
        }

        boolean isBelow(int number, int other) {
            int present = number;
            for (int step = 0; step < MOST_CLASSES && present >= 0 && present < classCount; step++) {
                if (present == other) {
                    return true;
                }
                present = superclass[present];
            }
            return false;
        }

        int objectFact(int object, int what) {
            switch (what) {
                case 0: return group[object];
                case 1: return serial[object];
                case 2: return size[object];
                case 3: return age[object];
                case 4: return slotCount[object];
                default: return roots[object];
            }
        }

        /** Writes what each slot refers to: NONE for all slots of a holder, which never refer. */
        void writeReferences(int[] references) {
            for (int object = 0; object < MOST_OBJECTS; object++) {
                int count = group[object] == NONE || group[object] == HOLDER ? 0 : slotCount[object];
                for (int slot = 0; slot < MOST_SLOTS; slot++) {
                    int place = object * MOST_SLOTS + slot;
                    references[place] = slot < count ? slots[place] : NONE;
                }
            }
        }

        private int sizeOfInstance(int number) {
            return roundedUp(12 + 4 * fields[number] + data[number]);
        }

        private static int sizeOfArray(int length) {
            return roundedUp(16 + 4 * length);
        }

        private static int roundedUp(int bytes) {
            return (bytes + 7) / 8 * 8;
        }

        int sizeOfAll(long set) {
            int sum = 0;
            for (int object = 0; object < MOST_OBJECTS; object++) {
                sum += contains(set, object) ? size[object] : 0;
            }
            return sum;
        }

        long allObjects() {
            long all = 0;
            for (int object = 0; object < MOST_OBJECTS; object++) {
                all |= group[object] != NONE ? member(object) : 0;
            }
            return all;
        }

        int objectCount() {
            return Long.bitCount(allObjects());
        }

        long allRoots() {
            long all = 0;
            for (int object = 0; object < MOST_OBJECTS; object++) {
                all |= group[object] != NONE && roots[object] != 0 ? member(object) : 0;
            }
            return all;
        }

        long membersOf(int itsGroup, boolean subclasses) {
            long members = 0;
            for (int object = 0; object < MOST_OBJECTS; object++) {
                boolean within = group[object] == itsGroup || subclasses && isBelow(group[object], itsGroup);
                members |= within ? member(object) : 0;
            }
            return members;
        }

        private int objectWithSerial(int wanted) {
            for (int object = 0; object < MOST_OBJECTS; object++) {
                if (group[object] != NONE && serial[object] == wanted) {
                    return object;
                }
            }
            return NONE;
        }

        int countNotIn(Heap other) {
            int count = 0;
            for (int object = 0; object < MOST_OBJECTS; object++) {
                boolean lacks = group[object] != NONE && other.objectWithSerial(serial[object]) == NONE;
                count += lacks ? 1 : 0;
            }
            return count;
        }

        int countChangedSince(Heap earlier) {
            int count = 0;
            for (int object = 0; object < MOST_OBJECTS; object++) {
                int before = group[object] == NONE ? NONE : earlier.objectWithSerial(serial[object]);
                count += before != NONE && differs(object, earlier, before) ? 1 : 0;
            }
            return count;
        }

        private boolean differs(int object, Heap earlier, int before) {
            if (roots[object] != earlier.roots[before] || slotCount[object] != earlier.slotCount[before]) {
                return true;
            }
            for (int slot = 0; slot < MOST_SLOTS; slot++) {
                if (serialIn(object, slot) != earlier.serialIn(before, slot)) {
                    return true;
                }
            }
            return false;
        }

        private int serialIn(int object, int slot) {
            int target = targetOf(object, slot);
            return hasObject(target) ? serial[target] : NONE;
        }
    }

    /**
     * A search from some objects, breadth first. Each object's targets are entered in ascending order, so the
     * order of entry is that of the paths, and the object from which another one was entered lies on its path.
     */
    private static final class Search {
        private final int[] order = new int[MOST_OBJECTS];
        private final int[] steps = new int[MOST_OBJECTS];
        private final int[] enteredFrom = new int[MOST_OBJECTS];
        private int count;
        private long found;

        /** Searches as if the omitted objects and what stands at the omitted place were not there. */
        void run(int[] references, long starts, long omitted, int omittedPlace) {
            Arrays.fill(steps, NONE);
            Arrays.fill(enteredFrom, NONE);
            count = 0;
            found = 0;
            enter(starts & ~omitted, NONE, 0);
            for (int place = 0; place < count && place < MOST_OBJECTS; place++) {
                int object = order[place];
                long targets = targetsOf(references, object, omittedPlace);
                enter(targets & ~omitted, object, steps[object] + 1);
            }
        }

        static long targetsOf(int[] references, int object, int omittedPlace) {
            long targets = 0;
            for (int slot = 0; slot < MOST_SLOTS; slot++) {
                int place = object * MOST_SLOTS + slot;
                targets |= place == omittedPlace ? 0 : member(references[place]);
            }
            return targets;
        }

        private void enter(long objects, int from, int distance) {
            long fresh = objects & ~found;
            found |= fresh;
            for (int object = 0; object < MOST_OBJECTS && fresh != 0; object++) {
                if ((fresh & 1) == 1 && count < MOST_OBJECTS) {
                    order[count] = object;
                    count++;
                    steps[object] = distance;
                    enteredFrom[object] = from;
                }
                fresh >>>= 1;
            }
        }

        int pathObject(int object, int index) {
            if (index < 0 || index > steps[object]) {
                return NONE;
            }
            int present = object;
            for (int step = steps[object]; step > index && present >= 0; step--) {
                present = enteredFrom[present];
            }
            return present;
        }
    }

    /** What follows from the references and roots of a heap; computed anew only when the heap has changed. */
    private static final class Analysis {
        private final Heap heap;
        private final Search search = new Search();
        private final Search trial = new Search();
        private final int[] references = new int[MOST_OBJECTS * MOST_SLOTS];
        private final long[] dominators = new long[MOST_OBJECTS];
        private final int[] immediate = new int[MOST_OBJECTS];
        private final int[] retained = new int[MOST_OBJECTS];
        private final int[] incoming = new int[MOST_OBJECTS];
        private final int[] outgoing = new int[MOST_OBJECTS];
        private final long[] led = new long[MOST_OBJECTS];
        private final int[] components = new int[MOST_OBJECTS];
        private int reachableSize;
        private int knownVersion;

        Analysis(Heap heap) {
            this.heap = heap;
            knownVersion = NONE;
        }

        void refresh() {
            if (knownVersion == heap.version) {
                return;
            }
            knownVersion = heap.version;
            heap.writeReferences(references);
            search.run(references, heap.allRoots(), 0, NONE);
            reachableSize = heap.sizeOfAll(search.found);
            findDominators();
            findImmediate();
            findRetained();
            countReferences();
            findLed();
            findComponents();
        }

        /** Takes away, until nothing changes, what does not dominate all from which an object is referred to. */
        private void findDominators() {
            long rooted = heap.allRoots();
            for (int object = 0; object < MOST_OBJECTS; object++) {
                boolean reachable = contains(search.found, object);
                dominators[object] = contains(rooted, object) ? member(object) : reachable ? search.found : 0;
            }
            boolean changed = true;
            for (int round = 0; round <= MOST_OBJECTS && changed; round++) {
                changed = false;
                for (int place = 0; place < search.count && place < MOST_OBJECTS; place++) {
                    changed |= narrowTargets(search.order[place]);
                }
            }
        }

        private boolean narrowTargets(int object) {
            boolean changed = false;
            for (int slot = 0; slot < MOST_SLOTS; slot++) {
                int target = references[object * MOST_SLOTS + slot];
                if (target >= 0 && target < MOST_OBJECTS) {
                    long narrowed = dominators[target] & (dominators[object] | member(target));
                    changed |= narrowed != dominators[target];
                    dominators[target] = narrowed;
                }
            }
            return changed;
        }

        private void findImmediate() {
            for (int object = 0; object < MOST_OBJECTS; object++) {
                immediate[object] = NONE;
                int depth = Long.bitCount(dominators[object]);
                for (int other = 0; other < MOST_OBJECTS && depth > 1; other++) {
                    // The dominators of an object are a chain: just one of them has just one dominator less.
                    if (contains(dominators[object], other) && Long.bitCount(dominators[other]) == depth - 1) {
                        immediate[object] = other;
                    }
                }
            }
        }

        private void findRetained() {
            for (int object = 0; object < MOST_OBJECTS; object++) {
                retained[object] = contains(search.found, object) ? heap.sizeOfAll(dominatedBy(object)) : 0;
            }
        }

        long dominatedBy(int object) {
            long dominated = 0;
            for (int other = 0; other < MOST_OBJECTS; other++) {
                dominated |= contains(dominators[other], object) ? member(other) : 0;
            }
            return dominated;
        }

        private void countReferences() {
            Arrays.fill(incoming, 0);
            Arrays.fill(outgoing, 0);
            for (int place = 0; place < MOST_OBJECTS * MOST_SLOTS; place++) {
                int target = references[place];
                if (target >= 0 && target < MOST_OBJECTS) {
                    incoming[target]++;
                    outgoing[place / MOST_SLOTS]++;
                }
            }
        }

        /** For each object those to which it leads, itself included (a closure with one middle object at a time). */
        private void findLed() {
            long all = heap.allObjects();
            for (int object = 0; object < MOST_OBJECTS; object++) {
                led[object] = contains(all, object) ? member(object) | Search.targetsOf(references, object, NONE) : 0;
            }
            for (int middle = 0; middle < MOST_OBJECTS; middle++) {
                for (int object = 0; object < MOST_OBJECTS && led[middle] != 0; object++) {
                    if (contains(led[object], middle)) {
                        led[object] |= led[middle];
                    }
                }
            }
        }

        private void findComponents() {
            for (int object = 0; object < MOST_OBJECTS; object++) {
                int lowest = NONE;
                for (int other = 0; other <= object && lowest == NONE; other++) {
                    if (contains(led[object], other) && contains(led[other], object)) {
                        lowest = other;
                    }
                }
                components[object] = lowest;
            }
        }

        int sizeOfComponent(int object) {
            int size = 0;
            for (int other = 0; other < MOST_OBJECTS; other++) {
                size += components[other] == components[object] ? 1 : 0;
            }
            return size;
        }

        int removeGarbage() {
            refresh();
            return heap.removeAllBut(search.found);
        }

        /** The objects whose immediate dominator is an object; for NONE the reachable ones without one. */
        long children(int object) {
            long children = 0;
            for (int other = 0; other < MOST_OBJECTS; other++) {
                boolean child = contains(search.found, other) && immediate[other] == object;
                children |= child ? member(other) : 0;
            }
            return children;
        }

        int lostWithoutSlot(int object, int slot) {
            trial.run(references, heap.allRoots(), 0, object * MOST_SLOTS + slot);
            return lostByTrial();
        }

        int lostWithoutRoot(int object) {
            trial.run(references, heap.allRoots() & ~member(object), 0, NONE);
            return lostByTrial();
        }

        int lostWithout(long omitted) {
            trial.run(references, heap.allRoots(), omitted, NONE);
            return lostByTrial();
        }

        private int lostByTrial() {
            return heap.sizeOfAll(search.found & ~trial.found);
        }

        private long retainingAtLeast(long candidates, int percent, int whole) {
            long enough = 0;
            for (int object = 0; object < MOST_OBJECTS; object++) {
                boolean large = contains(candidates, object) && retained[object] * 100 >= percent * whole;
                enough |= large ? member(object) : 0;
            }
            return enough;
        }

        long suspects(int percent) {
            long large = retainingAtLeast(search.found, percent, reachableSize);
            long suspects = large;
            for (int object = 0; object < MOST_OBJECTS; object++) {
                if (contains(large, object)) {
                    suspects &= ~member(immediate[object]);
                }
            }
            return suspects;
        }

        int greatest(long candidates) {
            int best = NONE;
            for (int object = 0; object < MOST_OBJECTS; object++) {
                if (contains(candidates, object) && (best == NONE || retained[object] > retained[best])) {
                    best = object;
                }
            }
            return best;
        }

        int accumulationFrom(int object, int percent) {
            int present = object;
            for (int step = 0; step < MOST_OBJECTS; step++) {
                int next = greatest(retainingAtLeast(children(present), percent, retained[present]));
                if (next == NONE) {
                    return present;
                }
                present = next;
            }
            return present;
        }
    }

    /** The saved states, the oldest one first, and behind them room for one that may still be dropped. */
    private static final class History {
        private final Heap[] states = new Heap[MOST_SAVED + 1];
        private int count;

        History() {
            for (int place = 0; place <= MOST_SAVED; place++) {
                states[place] = new Heap();
            }
        }

        void note(Heap heap) {
            states[count].copyFrom(heap);
        }

        Heap noted() {
            return states[count];
        }

        void keepNoted() {
            if (count < MOST_SAVED) {
                count++;
                return;
            }
            Heap oldest = states[0];
            for (int place = 0; place < MOST_SAVED; place++) {
                states[place] = states[place + 1];
            }
            states[MOST_SAVED] = oldest;
        }

        void save(Heap heap) {
            note(heap);
            keepNoted();
        }

        Heap latest() {
            return states[Math.max(count - 1, 0)];
        }

        void dropLatest() {
            count = Math.max(count - 1, 0);
        }
    }

    /** The text, and how far it has been read; where the reading failed is the syntax error position. */
    private static final class Text {
        private final int[] bytes = new int[MOST_BYTES];
        private int length;
        private int at;
        private boolean failed;

        void add(int value) {
            if (length < MOST_BYTES) {
                bytes[length] = value;
                length++;
            }
        }

        void begin() {
            at = 0;
            failed = false;
        }

        void fail() {
            failed = true;
        }

        boolean atEnd() {
            return at >= length;
        }

        /** The next byte; NONE at the end and after a failure, so that nothing is read any more. */
        int next() {
            return failed || at < 0 || at >= length ? NONE : bytes[at];
        }

        boolean skip(char wanted) {
            if (next() != wanted) {
                return false;
            }
            at++;
            return true;
        }

        void expect(char wanted) {
            if (!skip(wanted)) {
                fail();
            }
        }

        /** Reads the next byte if it is one of some, and answers NONE and fails if it is not. */
        int oneOf(String wanted) {
            int sign = next();
            if (sign == NONE || wanted.indexOf((char) sign) < 0) {
                fail();
                return NONE;
            }
            at++;
            return sign;
        }

        int number(int mostDigits) {
            int value = 0;
            int digits = 0;
            for (int sign = next(); digits < mostDigits && sign >= '0' && sign <= '9'; sign = next()) {
                value = value * 10 + sign - '0';
                at++;
                digits++;
            }
            if (digits == 0) {
                fail();
            }
            return value;
        }
    }

    /** Reads the text as a filter; what each part of it is worth is the set of objects for which it is true. */
    private static final class Filter {
        private final Heap heap;
        private final Analysis analysis;
        private final Text text;

        Filter(Heap heap, Analysis analysis, Text text) {
            this.heap = heap;
            this.analysis = analysis;
            this.text = text;
        }

        long apply() {
            analysis.refresh();
            text.begin();
            long matching = filter(0);
            if (!text.atEnd()) {
                text.fail();
            }
            return matching;
        }

        private long filter(int nested) {
            long matching = part(nested);
            for (int parts = 1; parts < MOST_BYTES && text.skip('|'); parts++) {
                matching |= part(nested);
            }
            return matching;
        }

        private long part(int nested) {
            long matching = unit(nested);
            for (int units = 1; units < MOST_BYTES && text.skip('&'); units++) {
                matching &= unit(nested);
            }
            return matching;
        }

        private long unit(int nested) {
            boolean not = negated();
            long matching;
            if (nested < MOST_NESTED && text.skip('(')) {
                matching = filter(nested + 1);
                text.expect(')');
            } else if (text.skip('*')) {
                matching = heap.allRoots();
            } else if (text.skip('@')) {
                matching = instancesOf(text.number(1));
            } else {
                matching = relation();
            }
            return not ? heap.allObjects() & ~matching : matching;
        }

        /** Reads all signs of negation in a loop: a recursion could go as deep as the text is long. */
        private boolean negated() {
            boolean not = false;
            for (int signs = 0; signs < MOST_BYTES && text.skip('!'); signs++) {
                not = !not;
            }
            return not;
        }

        private long instancesOf(int number) {
            return heap.hasClass(number) ? heap.membersOf(number, true) : 0;
        }

        private long relation() {
            int value = text.oneOf("srdioang");
            int sign = text.oneOf("<=>");
            int number = text.number(4);
            long matching = 0;
            for (int object = 0; object < MOST_OBJECTS && !text.failed; object++) {
                boolean holds = heap.hasObject(object) && isSo(valueOf(object, value), sign, number);
                matching |= holds ? member(object) : 0;
            }
            return matching;
        }

        private static boolean isSo(int value, int sign, int number) {
            switch (sign) {
                case '<': return value < number;
                case '=': return value == number;
                default: return value > number;
            }
        }

        private int valueOf(int object, int value) {
            switch (value) {
                case 's': return heap.size[object];
                case 'r': return analysis.retained[object];
                case 'd': return analysis.search.steps[object] == NONE ? FAR : analysis.search.steps[object];
                case 'i': return analysis.incoming[object];
                case 'o': return analysis.outgoing[object];
                case 'a': return heap.age[object];
                case 'n': return object;
                default: return heap.group[object];
            }
        }
    }

    /** Reads the text as commands, all of them before the first one is run. */
    private static final class Commands {
        private final Heap heap;
        private final Analysis analysis;
        private final Text text;
        private final int[] kinds = new int[MOST_BYTES];
        private final int[] first = new int[MOST_BYTES];
        private final int[] second = new int[MOST_BYTES];
        private final int[] third = new int[MOST_BYTES];
        private int count;

        Commands(Heap heap, Analysis analysis, Text text) {
            this.heap = heap;
            this.analysis = analysis;
            this.text = text;
        }

        void read() {
            text.begin();
            count = 0;
            while (count < MOST_BYTES && !text.failed && !text.atEnd()) {
                readOne();
                count++;
            }
        }

        private void readOne() {
            kinds[count] = text.oneOf("nawcs+-");
            switch (kinds[count]) {
                case 'n':
                case 'a':
                    first[count] = text.number(1);
                    break;
                case 's':
                    readPair();
                    text.expect(',');
                    third[count] = text.skip('-') ? NONE : text.number(2);
                    break;
                case '+':
                case '-':
                    readPair();
                    break;
                default:
                    break;
            }
            text.expect(';');
        }

        private void readPair() {
            first[count] = text.number(2);
            text.expect(',');
            second[count] = text.number(2);
        }

        /** Answers the first command that is refused, NONE if all were run. */
        int run() {
            for (int command = 0; command < count && command < MOST_BYTES; command++) {
                if (problemOfCommand(command) != FINE) {
                    return command;
                }
                runOne(command);
            }
            return NONE;
        }

        private int problemOfCommand(int command) {
            switch (kinds[command]) {
                case 'n': return heap.problemOfInstance(first[command]);
                case 'a': return heap.problemOfArray(first[command]);
                case 'w': return heap.problemOfHolder();
                case 's': return heap.problemOfTarget(first[command], second[command], third[command]);
                case '+': return heap.problemOfRoot(first[command], second[command]);
                case '-': return heap.problemOfUnrooting(first[command], second[command]);
                default: return FINE;
            }
        }

        private void runOne(int command) {
            int one = first[command];
            int two = second[command];
            switch (kinds[command]) {
                case 'n':
                    heap.addInstance(one);
                    break;
                case 'a':
                    heap.addArray(one);
                    break;
                case 'w':
                    heap.addHolder();
                    break;
                case 's':
                    heap.putTarget(one, two, third[command]);
                    break;
                case '+':
                    heap.putRoots(one, heap.roots[one] | 1 << two);
                    break;
                case '-':
                    heap.putRoots(one, heap.roots[one] & ~(1 << two));
                    break;
                default:
                    analysis.removeGarbage();
                    break;
            }
        }
    }

    /** The drawing of numbers, and of objects by them, for populate(). */
    private static final class Draw {
        private long x;

        void begin(int start) {
            x = start;
        }

        private int below(int bound) {
            x = (x * 1103515245L + 12345L) % 2147483648L;
            return bound > 0 ? (int) (x / 65536 % bound) : 0;
        }

        void addTo(Heap heap) {
            int object = newObject(heap);
            for (int slot = 0; slot < MOST_SLOTS; slot++) {
                if (heap.hasSlot(object, slot) && below(3) != 0) {
                    long all = heap.allObjects();
                    heap.putTarget(object, slot, memberAt(all, below(Long.bitCount(all))));
                }
            }
            if (below(5) == 0 && heap.hasObject(object)) {
                heap.putRoots(object, 1 << below(ROOT_KINDS));
            }
        }

        private int newObject(Heap heap) {
            switch (below(4)) {
                case 2: return heap.addArray(below(MOST_SLOTS + 1));
                case 3: return heap.addHolder();
                default: return heap.addInstance(below(heap.classCount));
            }
        }
    }
}
