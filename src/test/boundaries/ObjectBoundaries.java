/** The sentences of OBJECTS and of promises 6 to 12. */
final class ObjectBoundaries extends Boundaries {
    static void tell(Sentences book) {
        numbersAndSlots(book);
        groupsAndSizes(book);
        agesAndRoots(book);
        newInstance(book);
        newArray(book);
        newHolder(book);
        set(book);
        get(book);
        resizeArray(book);
        referent(book);
    }

    private static void numbersAndSlots(Sentences book) {
        book.in("OBJECTS");
        book.says("There are at most 40 objects; each has a number from 0 to 39.", x -> {
            for (int made = 0; made < 40; made++) {
                int number = made;
                x.due(number, h -> h.newArray(0));
            }
            x.due(40, h -> h.objects());
            x.yes(h -> h.exists(0));
            x.yes(h -> h.exists(39));
            x.no(h -> h.exists(40));
            x.no(h -> h.exists(-1));
            x.refused(STATE, h -> h.newArray(0));
            x.refused(STATE, h -> h.newHolder());
            x.refused(STATE, h -> h.newInstance(0));
            x.refused(STATE, h -> h.populate(0, 1));
            x.failsToExecute(-1000, "w;");
            x.due(40, h -> h.objects());
        });
        book.says("A new object gets the lowest number that is free.", x -> {
            x.arrays(5, 0);
            x.roots(1, 3);
            x.does(h -> h.collect());
            x.due(0, h -> h.newHolder());
            x.due(2, h -> h.newArray(0));
            x.due(4, h -> h.newInstance(0));
            x.due(5, h -> h.newHolder());
            Pair full = x.another();
            full.arrays(40, 0);
            for (int object = 0; object < 39; object++) {
                full.roots(object);
            }
            full.due(16, h -> h.collect());
            full.due(39, h -> h.newHolder());
            full.refused(STATE, h -> h.newHolder());
        });
        book.says("It also gets a serial number: 1 for the first object, and then 1 more for each.", x -> {
            x.does(h -> h.newInstance(0), h -> h.newArray(0), h -> h.newHolder());
            x.due(1, h -> h.objectInfo(0, 1));
            x.due(2, h -> h.objectInfo(1, 1));
            x.due(3, h -> h.objectInfo(2, 1));
            x.refused(INDEX, h -> h.newInstance(1));
            x.refused(ARGUMENT, h -> h.newArray(9));
            // Numbers come again, serial numbers do not.
            x.does(h -> h.collect());
            x.due(0, h -> h.newHolder());
            x.due(4, h -> h.objectInfo(0, 1));
            x.does(h -> h.populate(1, 39));
            x.due(5, h -> h.objectInfo(1, 1));
            x.due(43, h -> h.objectInfo(39, 1));
        });
        book.says("An object is an instance of a class, or an array, or a holder.", x -> {
            x.does(h -> h.newInstance(0), h -> h.newArray(0), h -> h.newHolder());
            x.refused(STATE, h -> h.resizeArray(0, 0));
            x.refused(STATE, h -> h.referent(0));
            x.due(0, h -> h.resizeArray(1, 0));
            x.refused(STATE, h -> h.referent(1));
            x.refused(STATE, h -> h.resizeArray(2, 1));
            x.due(NONE, h -> h.referent(2));
        });
        book.says("It has slots, numbered from 0: an instance as many as its class has fields, an array 0 to 8 (its length), a holder one.", x -> {
            x.does(h -> h.defineClass(0, 3, 0), h -> h.defineClass(1, 2, 0));
            x.does(h -> h.newInstance(0), h -> h.newInstance(2), h -> h.newArray(0), h -> h.newArray(8), h -> h.newHolder());
            int[] counts = {0, 5, 0, 8, 1};
            for (int i = 0; i < counts.length; i++) {
                int object = i;
                int count = counts[i];
                x.due(count, h -> h.objectInfo(object, 4));
                x.refused(INDEX, h -> h.get(object, -1));
                x.refused(INDEX, h -> h.get(object, count));
                x.refused(INDEX, h -> h.set(object, count, 0));
                for (int slot = 0; slot < count; slot++) {
                    int there = slot;
                    x.due(NONE, h -> h.set(object, there, 0));
                    x.due(0, h -> h.get(object, there));
                }
            }
        });
        book.says("A slot is empty or contains an object; in a new object all slots are empty.", x -> {
            x.does(h -> h.defineClass(0, 3, 0), h -> h.newArray(8), h -> h.newHolder(), h -> h.newInstance(1));
            x.refers(0, 0, 1, 2, 0, 1, 2, 0, 1);
            x.refers(1, 2);
            x.refers(2, 0, 1, 2);
            x.refused(INDEX, h -> h.set(0, 0, 3));
            x.due(48 + 24 + 24, h -> h.collect());
            x.does(h -> h.newArray(8), h -> h.newHolder(), h -> h.newInstance(1));
            for (int slot = 0; slot < 8; slot++) {
                int empty = slot;
                x.due(NONE, h -> h.get(0, empty));
            }
            x.due(NONE, h -> h.get(1, 0));
            for (int slot = 0; slot < 3; slot++) {
                int empty = slot;
                x.due(NONE, h -> h.get(2, empty));
            }
            x.due(0, h -> h.objectInfo(0, 6));
        });
    }

    private static void groupsAndSizes(Sentences book) {
        book.says("The group of an object is its class if it is an instance, 10 if it is an array, 11 if it is a holder.", x -> {
            for (int number = 1; number <= 9; number++) {
                x.does(h -> h.defineClass(0, 0, 0));
            }
            x.does(h -> h.newInstance(0), h -> h.newInstance(9), h -> h.newArray(0), h -> h.newHolder());
            x.due(0, h -> h.objectInfo(0, 0));
            x.due(9, h -> h.objectInfo(1, 0));
            x.due(10, h -> h.objectInfo(2, 0));
            x.due(11, h -> h.objectInfo(3, 0));
        });
        book.says("The size of an instance is 12 bytes, plus 4 for each field of its class, plus the data bytes of its class "
                + "and of all classes above it, rounded up to a multiple of 8.", x -> {
            int[] data = {0, 4, 5, 12, 13, 40};
            int[] sizes = {16, 16, 24, 24, 32, 56};
            for (int i = 0; i < data.length; i++) {
                int bytes = data[i];
                int size = sizes[i];
                int number = i + 1;
                x.does(h -> h.defineClass(0, 0, bytes));
                x.due(size, h -> h.classInfo(number, 2));
                x.due(i, h -> h.newInstance(number));
                x.due(size, h -> h.objectInfo(number - 1, 2));
            }
            Pair fields = x.another();
            fields.does(h -> h.defineClass(0, 1, 0), h -> h.defineClass(1, 0, 1), h -> h.defineClass(1, 3, 0), h -> h.defineClass(3, 1, 0));
            fields.due(16, h -> h.classInfo(1, 2));
            fields.due(24, h -> h.classInfo(2, 2));
            fields.due(32, h -> h.classInfo(3, 2));
            fields.due(32, h -> h.classInfo(4, 2));
            // The largest of all: 12 bytes, 5 fields and 9 times 40 data bytes are 392, a multiple of 8.
            Pair deep = x.another();
            deep.does(h -> h.defineClass(0, 3, 40), h -> h.defineClass(1, 2, 40));
            for (int number = 3; number <= 9; number++) {
                int above = number - 1;
                deep.does(h -> h.defineClass(above, 0, 40));
            }
            deep.does(h -> h.newInstance(9));
            deep.due(392, h -> h.objectInfo(0, 2));
        });
        book.says("The size of an array is 16 plus 4 for each slot, rounded up to a multiple of 8.", x -> {
            int[] sizes = {16, 24, 24, 32, 32, 40, 40, 48, 48};
            for (int i = 0; i <= 8; i++) {
                int length = i;
                int size = sizes[i];
                x.due(length, h -> h.newArray(length));
                x.due(size, h -> h.objectInfo(length, 2));
            }
            x.does(h -> h.resizeArray(8, 0), h -> h.resizeArray(0, 7));
            x.due(16, h -> h.objectInfo(8, 2));
            x.due(48, h -> h.objectInfo(0, 2));
        });
        book.says("The size of a holder is 24.", x -> {
            x.does(h -> h.newHolder());
            x.due(24, h -> h.objectInfo(0, 2));
            x.does(h -> h.set(0, 0, 0));
            x.due(24, h -> h.objectInfo(0, 2));
        });
    }

    private static void agesAndRoots(Sentences book) {
        book.says("An object has an age, the number of collections that it has survived, at most 99, and a set of root kinds "
                + "(0 to 2; an int in which bit k stands for kind k), at first empty.", x -> {
            x.does(h -> h.newArray(0), h -> h.newHolder(), h -> h.newInstance(0));
            x.due(0, h -> h.objectInfo(0, 3));
            x.due(0, h -> h.objectInfo(0, 5));
            x.due(1, h -> h.addRoot(0, 0));
            x.due(2, h -> h.addRoot(1, 1));
            x.due(4, h -> h.addRoot(2, 2));
            x.refused(ARGUMENT, h -> h.addRoot(0, 3));
            x.refused(ARGUMENT, h -> h.addRoot(0, -1));
            for (int survived = 1; survived <= 98; survived++) {
                x.does(h -> h.collect());
            }
            x.due(98, h -> h.objectInfo(0, 3));
            x.does(h -> h.collect());
            x.due(99, h -> h.objectInfo(0, 3));
            x.due(99, h -> h.objectInfo(1, 3));
            x.due(99, h -> h.objectInfo(2, 3));
            x.does(h -> h.collect(), h -> h.collect());
            x.due(99, h -> h.objectInfo(0, 3));
            x.does(h -> h.newHolder());
            x.due(0, h -> h.objectInfo(3, 3));
            x.due(0, h -> h.objectInfo(3, 5));
            // Nor does an object get the age or the root kinds of the one that had its number before.
            x.does(h -> h.removeRoot(0, 0), h -> h.collect());
            x.due(0, h -> h.newArray(0));
            x.due(0, h -> h.objectInfo(0, 3));
            x.due(0, h -> h.objectInfo(0, 5));
        });
        book.says("It is a root if this set is not empty.", x -> {
            x.does(h -> h.newArray(0));
            x.matches(0, "*");
            x.due(NONE, h -> h.distance(0));
            for (int number = 0; number <= 2; number++) {
                int kind = number;
                x.does(h -> h.addRoot(0, kind));
                x.due(0, h -> h.distance(0));
                x.matches(1, "*");
                x.does(h -> h.removeRoot(0, kind));
                x.due(NONE, h -> h.distance(0));
            }
            x.does(h -> h.addRoot(0, 0), h -> h.addRoot(0, 2), h -> h.removeRoot(0, 0));
            x.due(0, h -> h.distance(0));
            x.does(h -> h.removeRoot(0, 2));
            x.matches(0, "*");
            x.due(16, h -> h.collect());
        });
    }

    private static void newInstance(Sentences book) {
        book.in("Promise 6: newInstance");
        book.says("Creates an instance of a class.", x -> {
            x.does(h -> h.defineClass(0, 3, 0), h -> h.defineClass(1, 2, 9), h -> h.newInstance(2));
            x.due(1, h -> h.objects());
            x.due(2, h -> h.objectInfo(0, 0));
            x.due(48, h -> h.objectInfo(0, 2));
            x.due(0, h -> h.objectInfo(0, 3));
            x.due(5, h -> h.objectInfo(0, 4));
            x.due(0, h -> h.objectInfo(0, 5));
        });
        book.says("Undoable.", x -> {
            x.does(h -> h.newInstance(0), h -> h.newInstance(0));
            x.due(1, h -> h.undo());
            x.no(h -> h.exists(1));
            x.yes(h -> h.exists(0));
            x.due(1, h -> h.newInstance(0));
            x.due(2, h -> h.objectInfo(1, 1));
        });
        book.says("Returns the number of the new object.", x -> {
            for (int made = 0; made < 40; made++) {
                int number = made;
                x.due(number, h -> h.newInstance(0));
            }
            x.roots(0, 39);
            x.does(h -> h.collect());
            x.due(1, h -> h.newInstance(0));
        });
        book.says("Throws `IndexOutOfBoundsException` if there is no such class", x -> {
            x.refused(INDEX, h -> h.newInstance(1));
            x.does(h -> h.defineClass(0, 0, 0));
            for (int number : outside(0, 1)) {
                x.refused(INDEX, h -> h.newInstance(number));
            }
            // The groups of arrays and holders are no classes.
            x.refused(INDEX, h -> h.newInstance(10));
            x.refused(INDEX, h -> h.newInstance(11));
            x.does(h -> h.undo());
            x.refused(INDEX, h -> h.newInstance(1));
        });
        book.says("Throws `IllegalStateException` if there are 40 objects", x -> {
            x.arrays(39, 0);
            x.due(39, h -> h.newInstance(0));
            x.refused(STATE, h -> h.newInstance(0));
            x.refused(INDEX, h -> h.newInstance(1));
            x.refused(INDEX, h -> h.newInstance(-1));
            x.does(h -> h.undo());
            x.due(39, h -> h.newInstance(0));
        });
    }

    private static void newArray(Sentences book) {
        book.in("Promise 7: newArray");
        book.says("Creates an array.", x -> {
            x.does(h -> h.newArray(3));
            x.due(1, h -> h.objects());
            x.due(10, h -> h.objectInfo(0, 0));
            x.due(0, h -> h.objectInfo(0, 3));
            x.due(3, h -> h.objectInfo(0, 4));
            x.due(0, h -> h.objectInfo(0, 5));
        });
        book.says("Undoable.", x -> {
            x.does(h -> h.newArray(0), h -> h.newArray(8));
            x.due(1, h -> h.undo());
            x.no(h -> h.exists(1));
            x.due(0, h -> h.undo());
            x.no(h -> h.exists(0));
            x.due(0, h -> h.newArray(8));
            x.due(1, h -> h.objectInfo(0, 1));
        });
        book.says("`length`: the number of its slots, 0 to 8", x -> {
            for (int i = 0; i <= 8; i++) {
                int length = i;
                x.due(length, h -> h.newArray(length));
                x.due(length, h -> h.objectInfo(length, 4));
            }
        });
        book.says("Returns the number of the new object.", x -> {
            x.due(0, h -> h.newArray(8));
            x.due(1, h -> h.newArray(0));
            x.roots(1);
            x.does(h -> h.collect());
            x.due(0, h -> h.newArray(1));
            x.due(2, h -> h.newArray(1));
        });
        book.says("Throws `IllegalArgumentException` if length is out of range", x -> {
            for (int length : outside(0, 8)) {
                x.refused(ARGUMENT, h -> h.newArray(length));
            }
            x.due(0, h -> h.objects());
        });
        book.says("Throws `IllegalStateException` if there are 40 objects", x -> {
            x.arrays(39, 0);
            x.due(39, h -> h.newArray(0));
            x.refused(STATE, h -> h.newArray(0));
            x.refused(STATE, h -> h.newArray(8));
            x.refused(ARGUMENT, h -> h.newArray(9));
            x.refused(ARGUMENT, h -> h.newArray(-1));
        });
    }

    private static void newHolder(Sentences book) {
        book.in("Promise 8: newHolder");
        book.says("Creates a holder.", x -> {
            x.does(h -> h.newHolder());
            x.due(1, h -> h.objects());
            x.due(11, h -> h.objectInfo(0, 0));
            x.due(1, h -> h.objectInfo(0, 4));
            x.due(0, h -> h.objectInfo(0, 3));
            x.due(0, h -> h.objectInfo(0, 5));
            x.due(NONE, h -> h.referent(0));
        });
        book.says("Undoable.", x -> {
            x.does(h -> h.newHolder(), h -> h.newHolder());
            x.due(1, h -> h.undo());
            x.no(h -> h.exists(1));
            x.due(1, h -> h.newHolder());
            x.due(2, h -> h.objectInfo(1, 1));
        });
        book.says("Returns the number of the new object.", x -> {
            x.due(0, h -> h.newHolder());
            x.due(1, h -> h.newHolder());
            x.roots(1);
            x.does(h -> h.collect());
            x.due(0, h -> h.newHolder());
            x.due(2, h -> h.newHolder());
        });
        book.says("Throws `IllegalStateException` if there are 40 objects", x -> {
            x.arrays(39, 0);
            x.due(39, h -> h.newHolder());
            x.refused(STATE, h -> h.newHolder());
            x.due(624 + 24, h -> h.collect());
            x.due(0, h -> h.newHolder());
            Pair drawn = x.another();
            drawn.does(h -> h.populate(0, 40));
            drawn.refused(STATE, h -> h.newHolder());
        });
    }

    private static void set(Sentences book) {
        book.in("Promise 9: set");
        book.says("Sets a slot of an object.", x -> {
            x.does(h -> h.defineClass(0, 1, 0), h -> h.newArray(8), h -> h.newHolder(), h -> h.newInstance(1));
            x.does(h -> h.set(0, 0, 1), h -> h.set(0, 7, 2), h -> h.set(1, 0, 2), h -> h.set(2, 0, 0));
            x.due(1, h -> h.get(0, 0));
            x.due(2, h -> h.get(0, 7));
            x.due(2, h -> h.get(1, 0));
            x.due(0, h -> h.get(2, 0));
            for (int slot = 1; slot < 7; slot++) {
                int other = slot;
                x.due(NONE, h -> h.get(0, other));
            }
        });
        book.says("Undoable.", x -> {
            x.does(h -> h.newArray(1), h -> h.newHolder(), h -> h.set(0, 0, 1), h -> h.set(0, 0, 0));
            x.due(3, h -> h.undo());
            x.due(1, h -> h.get(0, 0));
            x.due(2, h -> h.undo());
            x.due(NONE, h -> h.get(0, 0));
            // A call that sets what is there saves a state, too.
            x.due(NONE, h -> h.set(0, 0, NONE));
            x.due(2, h -> h.undo());
        });
        book.says("`target`: the object that it contains afterwards, or NONE to make it empty", x -> {
            x.does(h -> h.newArray(1), h -> h.newArray(0));
            x.does(h -> h.set(0, 0, 0));
            x.due(0, h -> h.get(0, 0));
            x.does(h -> h.set(0, 0, 1));
            x.due(1, h -> h.get(0, 0));
            x.does(h -> h.set(0, 0, NONE));
            x.due(NONE, h -> h.get(0, 0));
            x.due(0, h -> h.objectInfo(0, 6));
            x.due(0, h -> h.objectInfo(1, 7));
        });
        book.says("Returns the object that it contained before; NONE if it was empty.", x -> {
            x.does(h -> h.newArray(1), h -> h.newHolder());
            x.due(NONE, h -> h.set(0, 0, NONE));
            x.due(NONE, h -> h.set(0, 0, 1));
            x.due(1, h -> h.set(0, 0, 1));
            x.due(1, h -> h.set(0, 0, 0));
            x.due(0, h -> h.set(0, 0, NONE));
            x.due(NONE, h -> h.set(1, 0, 0));
            x.due(0, h -> h.set(1, 0, NONE));
        });
        book.says("Throws `IndexOutOfBoundsException` if there is no such object or slot, or target is neither NONE nor an object", x -> {
            x.does(h -> h.newArray(8), h -> h.newHolder(), h -> h.newInstance(0), h -> h.set(0, 0, 1));
            for (int object : outside(0, 2)) {
                x.refused(INDEX, h -> h.set(object, 0, 0));
                if (object != NONE) {
                    x.refused(INDEX, h -> h.set(0, 0, object));
                }
            }
            for (int slot : outside(0, 7)) {
                x.refused(INDEX, h -> h.set(0, slot, 1));
                x.refused(INDEX, h -> h.set(0, slot, NONE));
            }
            x.refused(INDEX, h -> h.set(1, 1, 0));
            x.refused(INDEX, h -> h.set(2, 0, 0));
            x.refused(INDEX, h -> h.set(39, 0, 0));
            x.refused(INDEX, h -> h.set(0, 0, 39));
            x.refused(INDEX, h -> h.set(0, 0, 40));
            // A number that was an object's does not count any more.
            x.does(h -> h.addRoot(1, 0), h -> h.collect());
            x.refused(INDEX, h -> h.set(1, 0, 0));
            x.refused(INDEX, h -> h.set(0, 0, 1));
        });
    }

    private static void get(Sentences book) {
        book.in("Promise 10: get");
        book.says("Returns what a slot contains.", x -> {
            x.does(h -> h.newArray(8), h -> h.newHolder());
            x.refers(0, 0, 1, 0, 1, 0, 1, 0, 1);
            x.refers(1, 1);
            for (int i = 0; i < 8; i++) {
                int slot = i;
                x.dueWithoutChange(slot % 2, h -> h.get(0, slot));
            }
            x.due(1, h -> h.get(1, 0));
        });
        book.says("Returns the number of the object; NONE if the slot is empty.", x -> {
            x.does(h -> h.newArray(2), h -> h.newHolder());
            x.due(NONE, h -> h.get(0, 0));
            x.due(NONE, h -> h.get(1, 0));
            x.does(h -> h.set(0, 1, 0));
            x.due(NONE, h -> h.get(0, 0));
            x.due(0, h -> h.get(0, 1));
        });
        book.says("Throws `IndexOutOfBoundsException` if there is no such object or slot", x -> {
            x.does(h -> h.newArray(8), h -> h.newHolder(), h -> h.newInstance(0), h -> h.newArray(0));
            for (int object : outside(0, 3)) {
                x.refused(INDEX, h -> h.get(object, 0));
            }
            for (int slot : outside(0, 7)) {
                x.refused(INDEX, h -> h.get(0, slot));
            }
            x.refused(INDEX, h -> h.get(1, 1));
            x.refused(INDEX, h -> h.get(2, 0));
            x.refused(INDEX, h -> h.get(3, 0));
            x.refused(INDEX, h -> h.get(39, 0));
            x.does(h -> h.resizeArray(0, 3));
            x.refused(INDEX, h -> h.get(0, 3));
            x.due(NONE, h -> h.get(0, 2));
        });
    }

    private static void resizeArray(Sentences book) {
        book.in("Promise 11: resizeArray");
        book.says("Changes the length of an array.", x -> {
            x.does(h -> h.newArray(3), h -> h.newArray(3), h -> h.resizeArray(0, 7));
            x.due(7, h -> h.objectInfo(0, 4));
            x.due(48, h -> h.objectInfo(0, 2));
            x.due(3, h -> h.objectInfo(1, 4));
            x.due(1, h -> h.objectInfo(0, 1));
        });
        book.says("Slots that it does not have any more are lost, new ones are empty.", x -> {
            x.does(h -> h.newArray(8), h -> h.newArray(8));
            x.refers(0, 1, 1, 1, 1, 1, 1, 1, 1);
            x.refers(1, 0, 0, 0, 0, 0, 0, 0, 0);
            x.does(h -> h.resizeArray(0, 3));
            x.due(1, h -> h.get(0, 2));
            x.refused(INDEX, h -> h.get(0, 3));
            x.due(3, h -> h.objectInfo(1, 7));
            x.does(h -> h.resizeArray(0, 8));
            x.due(1, h -> h.get(0, 2));
            for (int slot = 3; slot < 8; slot++) {
                int empty = slot;
                x.due(NONE, h -> h.get(0, empty));
            }
            x.due(3, h -> h.objectInfo(0, 6));
            x.does(h -> h.resizeArray(0, 0), h -> h.resizeArray(0, 1));
            x.due(NONE, h -> h.get(0, 0));
            // The neighbour keeps all of its slots.
            x.due(0, h -> h.get(1, 0));
            x.due(8, h -> h.objectInfo(1, 6));
        });
        book.says("Undoable.", x -> {
            x.does(h -> h.newArray(2), h -> h.set(0, 1, 0), h -> h.resizeArray(0, 0));
            x.due(2, h -> h.undo());
            x.due(2, h -> h.objectInfo(0, 4));
            x.due(0, h -> h.get(0, 1));
            x.due(2, h -> h.resizeArray(0, 2));
            x.due(2, h -> h.undo());
        });
        book.says("`length`: the new length, 0 to 8", x -> {
            x.does(h -> h.newArray(4));
            x.due(4, h -> h.resizeArray(0, 0));
            x.due(0, h -> h.resizeArray(0, 8));
            x.due(8, h -> h.objectInfo(0, 4));
            x.due(NONE, h -> h.set(0, 7, 0));
            x.due(8, h -> h.resizeArray(0, 7));
        });
        book.says("Returns the length before.", x -> {
            x.does(h -> h.newArray(0));
            x.due(0, h -> h.resizeArray(0, 0));
            x.due(0, h -> h.resizeArray(0, 8));
            x.due(8, h -> h.resizeArray(0, 8));
            x.due(8, h -> h.resizeArray(0, 1));
            x.due(1, h -> h.resizeArray(0, 0));
        });
        book.says("Throws `IndexOutOfBoundsException` if there is no such object", x -> {
            noSuchObject(x, (h, object) -> h.resizeArray(object, 0));
            x.refused(INDEX, h -> h.resizeArray(0, 9));
            x.does(h -> h.newArray(0));
            x.refused(INDEX, h -> h.resizeArray(1, 1));
            x.refused(INDEX, h -> h.resizeArray(NONE, -1));
            noSuchObject(x, (h, object) -> h.resizeArray(object, 1));
        });
        book.says("Throws `IllegalArgumentException` if length is out of range", x -> {
            x.does(h -> h.newArray(4), h -> h.newHolder(), h -> h.newInstance(0), h -> h.set(0, 3, 1));
            for (int length : outside(0, 8)) {
                x.refused(ARGUMENT, h -> h.resizeArray(0, length));
                x.refused(ARGUMENT, h -> h.resizeArray(1, length));
                x.refused(ARGUMENT, h -> h.resizeArray(2, length));
            }
            x.due(4, h -> h.objectInfo(0, 4));
            x.due(1, h -> h.get(0, 3));
        });
        book.says("Throws `IllegalStateException` if the object is not an array", x -> {
            x.does(h -> h.defineClass(0, 3, 0), h -> h.newHolder(), h -> h.newInstance(0), h -> h.newInstance(1));
            for (int object : numbers(0, 1, 2)) {
                for (int length : numbers(0, 1, 3, 8)) {
                    x.refused(STATE, h -> h.resizeArray(object, length));
                }
                x.refused(ARGUMENT, h -> h.resizeArray(object, 9));
            }
            x.refused(INDEX, h -> h.resizeArray(3, 1));
            x.due(1, h -> h.objectInfo(0, 4));
        });
    }

    private static void referent(Sentences book) {
        book.in("Promise 12: referent");
        book.says("Returns what a holder contains.", x -> {
            x.does(h -> h.newArray(1), h -> h.newHolder(), h -> h.set(1, 0, 0));
            x.dueWithoutChange(0, h -> h.referent(1));
            x.does(h -> h.set(1, 0, 1));
            x.dueWithoutChange(1, h -> h.referent(1));
        });
        book.says("Returns the number of the object; NONE if it is empty.", x -> {
            x.does(h -> h.newHolder(), h -> h.newHolder());
            x.due(NONE, h -> h.referent(0));
            x.does(h -> h.set(0, 0, 1), h -> h.addRoot(0, 0));
            x.due(1, h -> h.referent(0));
            x.does(h -> h.collect());
            x.due(NONE, h -> h.referent(0));
            x.does(h -> h.set(0, 0, 0), h -> h.set(0, 0, NONE));
            x.due(NONE, h -> h.referent(0));
        });
        book.says("Throws `IndexOutOfBoundsException` if there is no such object", x -> {
            noSuchObject(x, (h, object) -> h.referent(object));
            x.refused(INDEX, h -> h.referent(0));
            x.does(h -> h.newHolder());
            x.refused(INDEX, h -> h.referent(1));
            x.does(h -> h.undo());
            x.refused(INDEX, h -> h.referent(0));
        });
        book.says("Throws `IllegalStateException` if the object is not a holder", x -> {
            x.does(h -> h.defineClass(0, 1, 0), h -> h.newArray(1), h -> h.newInstance(1), h -> h.newInstance(0), h -> h.newArray(0));
            x.does(h -> h.set(0, 0, 1), h -> h.set(1, 0, 0));
            for (int object : numbers(0, 1, 2, 3)) {
                x.refused(STATE, h -> h.referent(object));
            }
        });
    }
}
