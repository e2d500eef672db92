/** The sentences of promises 13 to 19. */
final class ChangeBoundaries extends Boundaries {
    static void tell(Sentences book) {
        addRoot(book);
        removeRoot(book);
        collect(book);
        objects(book);
        exists(book);
        objectInfo(book);
        populate(book);
        populateRefused(book);
    }

    private static void addRoot(Sentences book) {
        book.in("Promise 13: addRoot");
        book.says("Adds a root kind to an object.", x -> {
            x.arrays(2, 0);
            x.does(h -> h.addRoot(0, 1), h -> h.addRoot(0, 2));
            x.due(6, h -> h.objectInfo(0, 5));
            x.due(0, h -> h.objectInfo(1, 5));
            x.due(0, h -> h.distance(0));
        });
        book.says("Undoable.", x -> {
            x.does(h -> h.newArray(0), h -> h.addRoot(0, 1), h -> h.addRoot(0, 1));
            x.due(2, h -> h.undo());
            x.due(2, h -> h.objectInfo(0, 5));
            x.due(1, h -> h.undo());
            x.due(0, h -> h.objectInfo(0, 5));
            x.due(NONE, h -> h.distance(0));
        });
        book.says("`kind`: the root kind, 0 to 2", x -> {
            x.arrays(3, 0);
            x.due(1, h -> h.addRoot(0, 0));
            x.due(2, h -> h.addRoot(1, 1));
            x.due(4, h -> h.addRoot(2, 2));
        });
        book.says("Returns its set of root kinds afterwards.", x -> {
            x.does(h -> h.newHolder());
            x.due(4, h -> h.addRoot(0, 2));
            x.due(4, h -> h.addRoot(0, 2));
            x.due(5, h -> h.addRoot(0, 0));
            x.due(7, h -> h.addRoot(0, 1));
            x.due(7, h -> h.addRoot(0, 0));
        });
        book.says("Throws `IndexOutOfBoundsException` if there is no such object", x -> {
            x.refused(INDEX, h -> h.addRoot(0, 0));
            x.does(h -> h.newArray(0));
            x.refused(INDEX, h -> h.addRoot(1, 0));
            x.refused(INDEX, h -> h.addRoot(NONE, 3));
            noSuchObject(x, (h, object) -> h.addRoot(object, 0));
        });
        book.says("Throws `IllegalArgumentException` if kind is out of range", x -> {
            x.does(h -> h.newArray(0));
            for (int kind : outside(0, 2)) {
                x.refused(ARGUMENT, h -> h.addRoot(0, kind));
                x.refused(INDEX, h -> h.addRoot(1, kind));
            }
            // A shift by 32 or 33 would be one by 0 or 1.
            x.refused(ARGUMENT, h -> h.addRoot(0, 32));
            x.refused(ARGUMENT, h -> h.addRoot(0, 33));
            x.due(0, h -> h.objectInfo(0, 5));
        });
    }

    private static void removeRoot(Sentences book) {
        book.in("Promise 14: removeRoot");
        book.says("Removes a root kind from an object.", x -> {
            x.arrays(2, 0);
            x.roots(0, 1);
            x.does(h -> h.removeRoot(0, 0));
            x.due(0, h -> h.objectInfo(0, 5));
            x.due(1, h -> h.objectInfo(1, 5));
            x.due(NONE, h -> h.distance(0));
        });
        book.says("Undoable.", x -> {
            x.does(h -> h.newArray(0), h -> h.addRoot(0, 2), h -> h.removeRoot(0, 2));
            x.due(2, h -> h.undo());
            x.due(4, h -> h.objectInfo(0, 5));
            x.due(0, h -> h.distance(0));
        });
        book.says("`kind`: the root kind, 0 to 2", x -> {
            x.does(h -> h.newArray(0), h -> h.addRoot(0, 0), h -> h.addRoot(0, 1), h -> h.addRoot(0, 2));
            x.due(6, h -> h.removeRoot(0, 0));
            x.due(4, h -> h.removeRoot(0, 1));
            x.due(0, h -> h.removeRoot(0, 2));
        });
        book.says("Returns its set of root kinds afterwards.", x -> {
            x.does(h -> h.newHolder(), h -> h.addRoot(0, 0), h -> h.addRoot(0, 2));
            x.due(1, h -> h.removeRoot(0, 2));
            x.due(0, h -> h.removeRoot(0, 0));
        });
        book.says("Throws `IndexOutOfBoundsException` if there is no such object", x -> {
            x.refused(INDEX, h -> h.removeRoot(0, 0));
            x.does(h -> h.newArray(0), h -> h.addRoot(0, 0));
            x.refused(INDEX, h -> h.removeRoot(1, 0));
            x.refused(INDEX, h -> h.removeRoot(NONE, 3));
            noSuchObject(x, (h, object) -> h.removeRoot(object, 0));
        });
        book.says("Throws `IllegalArgumentException` if kind is out of range", x -> {
            x.arrays(2, 0);
            x.does(h -> h.addRoot(0, 0), h -> h.addRoot(0, 1), h -> h.addRoot(0, 2));
            for (int kind : outside(0, 2)) {
                x.refused(ARGUMENT, h -> h.removeRoot(0, kind));
                x.refused(ARGUMENT, h -> h.removeRoot(1, kind));
                x.refused(INDEX, h -> h.removeRoot(2, kind));
            }
            x.refused(ARGUMENT, h -> h.removeRoot(0, 32));
            x.due(7, h -> h.objectInfo(0, 5));
        });
        book.says("Throws `IllegalStateException` if the object does not have this root kind", x -> {
            x.does(h -> h.newArray(0));
            for (int kind : numbers(0, 1, 2)) {
                x.refused(STATE, h -> h.removeRoot(0, kind));
            }
            x.does(h -> h.addRoot(0, 1));
            x.refused(STATE, h -> h.removeRoot(0, 0));
            x.refused(STATE, h -> h.removeRoot(0, 2));
            x.refused(ARGUMENT, h -> h.removeRoot(0, 3));
            x.refused(INDEX, h -> h.removeRoot(1, 0));
            x.does(h -> h.removeRoot(0, 1));
            x.refused(STATE, h -> h.removeRoot(0, 1));
        });
    }

    private static void collect(Sentences book) {
        book.in("Promise 15: collect");
        book.says("Collects garbage: all objects that are not reachable are removed; then the slot of each holder that contains an "
                + "object that was removed becomes empty; the age of each remaining object increases by 1, but not above 99.", x -> {
            // 0 is a root and leads to 1; 2 and 3 are a cycle that leads to 1; the holders contain 1, 2, each other.
            x.arrays(4, 2);
            x.does(h -> h.newHolder(), h -> h.newHolder(), h -> h.newHolder(), h -> h.newHolder());
            x.refers(0, 1);
            x.refers(2, 3, 1);
            x.refers(3, 2);
            x.does(h -> h.set(4, 0, 1), h -> h.set(5, 0, 2), h -> h.set(6, 0, 7), h -> h.set(7, 0, 6));
            x.roots(0, 4, 5, 6);
            x.does(h -> h.collect());
            x.due(5, h -> h.objects());
            for (int object : numbers(2, 3, 7)) {
                x.no(h -> h.exists(object));
            }
            x.due(1, h -> h.referent(4));
            x.due(NONE, h -> h.referent(5));
            x.due(NONE, h -> h.referent(6));
            for (int object : numbers(0, 1, 4, 5, 6)) {
                x.due(1, h -> h.objectInfo(object, 3));
            }
            // What gets a number again is not what the holder contained.
            x.due(2, h -> h.newArray(0));
            x.due(NONE, h -> h.referent(5));
            x.due(0, h -> h.objectInfo(2, 3));
            for (int age = 2; age <= 100; age++) {
                x.does(h -> h.collect());
            }
            x.due(99, h -> h.objectInfo(0, 3));
            x.due(99, h -> h.objectInfo(6, 3));
        });
        book.says("Undoable.", x -> {
            x.due(0, h -> h.collect());
            x.due(0, h -> h.undo());
            x.does(h -> h.newArray(1), h -> h.newHolder(), h -> h.set(1, 0, 0), h -> h.addRoot(1, 0), h -> h.collect());
            x.due(4, h -> h.undo());
            x.due(2, h -> h.objects());
            x.due(0, h -> h.referent(1));
            x.due(0, h -> h.objectInfo(1, 3));
        });
        book.says("Returns the sum of the sizes of the objects that were removed.", x -> {
            x.due(0, h -> h.collect());
            x.does(h -> h.newArray(8), h -> h.newHolder(), h -> h.newInstance(0), h -> h.newArray(0));
            x.roots(3);
            x.due(48 + 24 + 16, h -> h.collect());
            x.due(0, h -> h.collect());
            x.does(h -> h.removeRoot(3, 0));
            x.due(16, h -> h.collect());
            x.due(0, h -> h.objects());
            Pair full = x.another();
            full.arrays(40, 8);
            full.due(40 * 48, h -> h.collect());
        });
    }

    private static void objects(Sentences book) {
        book.in("Promise 16: objects");
        book.says("Returns the number of objects.", x -> {
            x.does(h -> h.newArray(0), h -> h.newHolder(), h -> h.newInstance(0));
            x.dueWithoutChange(3, h -> h.objects());
            x.roots(2);
            x.does(h -> h.collect());
            x.dueWithoutChange(1, h -> h.objects());
            x.does(h -> h.undo());
            x.due(3, h -> h.objects());
        });
        book.says("Returns 0 to 40.", x -> {
            x.due(0, h -> h.objects());
            x.does(h -> h.populate(0, 40));
            x.due(40, h -> h.objects());
            x.refused(STATE, h -> h.newHolder());
            x.due(40, h -> h.objects());
            x.does(h -> h.undo());
            x.due(0, h -> h.objects());
        });
    }

    private static void exists(Sentences book) {
        book.in("Promise 17: exists");
        book.says("Tells whether there is an object with a number.", x -> {
            for (int number : outside(0, 39)) {
                x.no(h -> h.exists(number));
            }
            x.no(h -> h.exists(0));
            x.arrays(40, 0);
            for (int number : outside(0, 39)) {
                x.no(h -> h.exists(number));
            }
            for (int i = 0; i < 40; i++) {
                int number = i;
                x.yes(h -> h.exists(number));
            }
        });
        book.says("Returns true if there is.", x -> {
            x.arrays(3, 0);
            x.roots(1);
            x.does(h -> h.collect());
            x.no(h -> h.exists(0));
            x.yes(h -> h.exists(1));
            x.no(h -> h.exists(2));
            x.does(h -> h.newHolder());
            x.yes(h -> h.exists(0));
        });
    }

    private static void objectInfo(Sentences book) {
        book.in("Promise 18: objectInfo");
        book.plain("Returns something about an object.");
        book.plain("Returns that number.");
        book.says("`what`: 0 its group, 1 its serial number, 2 its size, 3 its age, 4 the number of its slots, 5 its set of root kinds, "
                + "6 the number of references from it, 7 the number of references to it (also from objects that are not reachable)", x -> {
            x.does(h -> h.newArray(0), h -> h.collect());
            x.does(h -> h.newArray(8), h -> h.newHolder(), h -> h.newArray(3));
            x.does(h -> h.addRoot(0, 2), h -> h.addRoot(0, 0), h -> h.addRoot(1, 1), h -> h.addRoot(2, 0), h -> h.collect());
            x.does(h -> h.removeRoot(2, 0));
            x.refers(0, 0, 0, 1);
            x.refers(1, 0);
            x.refers(2, 0, 2, 1);
            int[][] facts = {{10, 2, 48, 1, 8, 5, 3, 3}, {11, 3, 24, 1, 1, 2, 0, 2}, {10, 4, 32, 1, 3, 0, 3, 1}};
            for (int i = 0; i < 3; i++) {
                int object = i;
                for (int j = 0; j <= 7; j++) {
                    int what = j;
                    x.dueWithoutChange(facts[object][what], h -> h.objectInfo(object, what));
                }
            }
            x.due(NONE, h -> h.distance(2));
            Pair full = x.another();
            full.arrays(40, 8);
            full.refers(39, 0, 39, 0, 39, 0, 39, 0, 39);
            full.due(8, h -> h.objectInfo(39, 6));
            full.due(4, h -> h.objectInfo(39, 7));
            full.due(4, h -> h.objectInfo(0, 7));
        });
        book.says("Throws `IndexOutOfBoundsException` if there is no such object", x -> {
            x.refused(INDEX, h -> h.objectInfo(0, 0));
            x.does(h -> h.newArray(0));
            x.refused(INDEX, h -> h.objectInfo(1, 0));
            noSuchObject(x, (h, object) -> h.objectInfo(object, 7));
            noSuchObject(x, (h, object) -> h.objectInfo(object, 8));
        });
        book.says("Throws `IllegalArgumentException` if what is out of range", x -> {
            x.does(h -> h.newArray(0));
            for (int what : outside(0, 7)) {
                x.refused(ARGUMENT, h -> h.objectInfo(0, what));
                x.refused(INDEX, h -> h.objectInfo(1, what));
            }
        });
    }

    private static void compareKinds(Pair x, Drawing drawing) {
        for (Drawing.Drawn drawn : drawing.objects) {
            x.due(drawn.group, h -> h.objectInfo(drawn.number, 0));
            x.due(drawn.slots.length, h -> h.objectInfo(drawn.number, 4));
        }
    }

    private static void compareSlots(Pair x, Drawing drawing) {
        for (Drawing.Drawn drawn : drawing.objects) {
            for (int i = 0; i < drawn.slots.length; i++) {
                int slot = i;
                x.due(drawn.slots[slot], h -> h.get(drawn.number, slot));
            }
        }
    }

    private static void compareRoots(Pair x, Drawing drawing) {
        for (Drawing.Drawn drawn : drawing.objects) {
            x.due(drawn.roots, h -> h.objectInfo(drawn.number, 5));
        }
    }

    private static final int[] FIELDS_OF_TEN = {0, 3, 5, 0, 0, 1, 2, 2, 3, 0};

    private static void tenClasses(Pair x) {
        x.does(h -> h.defineClass(0, 3, 0), h -> h.defineClass(1, 2, 0), h -> h.defineClass(0, 0, 0), h -> h.defineClass(3, 0, 9));
        x.does(h -> h.defineClass(4, 1, 0), h -> h.defineClass(5, 1, 0), h -> h.defineClass(6, 0, 40), h -> h.defineClass(7, 1, 0));
        x.does(h -> h.defineClass(0, 0, 1));
    }

    private static void populate(Sentences book) {
        book.in("Promise 19: populate");
        book.says("Creates random objects.", x -> {
            x.does(h -> h.populate(5, 3));
            x.due(3, h -> h.objects());
            for (int i = 0; i < 3; i++) {
                int object = i;
                x.due(object + 1, h -> h.objectInfo(object, 1));
                x.due(0, h -> h.objectInfo(object, 3));
            }
        });
        book.says("Undoable.", x -> {
            x.does(h -> h.newArray(1), h -> h.populate(9, 39));
            x.due(1, h -> h.undo());
            x.due(1, h -> h.objects());
            x.due(1, h -> h.newHolder());
            x.due(2, h -> h.objectInfo(1, 1));
        });
        book.says("To draw below n means: x, which is start at first, becomes (x * 1103515245 + 12345) modulo 2147483648, computed in "
                + "long arithmetic, and the number is (x / 65536) modulo n.", x -> {
            // From 0 the first x is 12345, and 12345 / 65536 is 0: an instance; the next draws are compared as a whole.
            for (int start : numbers(0, 1, 2147483647, 2147418112, 65536)) {
                Pair y = x.another();
                y.does(h -> h.populate(start, 20));
                Drawing drawing = new Drawing(start, 20, numbers(0));
                compareKinds(y, drawing);
                compareSlots(y, drawing);
                compareRoots(y, drawing);
            }
            x.does(h -> h.populate(0, 1));
            x.due(0, h -> h.objectInfo(0, 0));
        });
        book.says("For each object: a number is drawn below 4; if it is 0 or 1, a class is drawn below the number of classes, and an "
                + "instance of it is created; if it is 2, a length is drawn below 9, and an array is created; if it is 3, a holder.", x -> {
            for (int start : numbers(3, 77, 1234567)) {
                Pair y = x.another();
                tenClasses(y);
                y.does(h -> h.populate(start, 40));
                compareKinds(y, new Drawing(start, 40, FIELDS_OF_TEN));
            }
            Pair three = x.another();
            three.does(h -> h.defineClass(0, 3, 0), h -> h.defineClass(1, 2, 0), h -> h.populate(11, 40));
            compareKinds(three, new Drawing(11, 40, numbers(0, 3, 5)));
        });
        book.says("Then for each of its slots, in order, a number is drawn below 3; if it is not 0, k is drawn below the number of "
                + "objects, and the slot contains the object with the k-th lowest number (k from 0).", x -> {
            for (int start : numbers(4, 78, 7654321)) {
                Pair y = x.another();
                tenClasses(y);
                y.does(h -> h.populate(start, 40));
                compareSlots(y, new Drawing(start, 40, FIELDS_OF_TEN));
            }
            // With gaps between the numbers the k-th lowest one is not k; the new object itself counts.
            Pair gaps = x.another();
            gaps.arrays(20, 0);
            gaps.roots(3, 8, 19);
            gaps.does(h -> h.collect(), h -> h.populate(99, 9));
            Drawing drawing = new Drawing(99, 9, numbers(0), 3, 8, 19);
            compareKinds(gaps, drawing);
            compareSlots(gaps, drawing);
            Pair own = x.another();
            own.does(h -> h.populate(2, 1));
            compareSlots(own, new Drawing(2, 1, numbers(0)));
        });
        book.says("Then a number is drawn below 5; if it is 0, a number below 3 is drawn, and the object gets this root kind.", x -> {
            for (int start : numbers(5, 79, 333333)) {
                Pair y = x.another();
                tenClasses(y);
                y.does(h -> h.populate(start, 40));
                compareRoots(y, new Drawing(start, 40, FIELDS_OF_TEN));
            }
        });
    }

    private static void populateRefused(Sentences book) {
        book.says("`start`: 0 or more", x -> {
            x.due(1, h -> h.populate(0, 1));
            x.due(2, h -> h.populate(Integer.MAX_VALUE, 1));
            x.refused(ARGUMENT, h -> h.populate(-1, 1));
            x.refused(ARGUMENT, h -> h.populate(Integer.MIN_VALUE, 1));
        });
        book.says("`count`: the number of objects to create, 1 to 40", x -> {
            x.due(1, h -> h.populate(0, 1));
            x.does(h -> h.undo());
            x.due(40, h -> h.populate(0, 40));
            x.due(40, h -> h.objectInfo(39, 1));
        });
        book.says("Returns the number of objects afterwards.", x -> {
            x.does(h -> h.newArray(0));
            x.due(3, h -> h.populate(1, 2));
            x.due(40, h -> h.populate(1, 37));
        });
        book.says("Throws `IllegalArgumentException` if start is negative or count is out of range", x -> {
            for (int start : numbers(-1, -2, -65536, Integer.MIN_VALUE, Integer.MIN_VALUE + 1)) {
                x.refused(ARGUMENT, h -> h.populate(start, 1));
                x.refused(ARGUMENT, h -> h.populate(start, 40));
            }
            for (int count : outside(1, 40)) {
                x.refused(ARGUMENT, h -> h.populate(0, count));
                x.refused(ARGUMENT, h -> h.populate(-1, count));
            }
            x.due(0, h -> h.objects());
        });
        book.says("Throws `IllegalStateException` if there would be more than 40 objects", x -> {
            x.does(h -> h.newArray(0));
            x.refused(STATE, h -> h.populate(0, 40));
            x.due(40, h -> h.populate(0, 39));
            x.refused(STATE, h -> h.populate(0, 1));
            x.refused(STATE, h -> h.populate(Integer.MAX_VALUE, 40));
            x.refused(ARGUMENT, h -> h.populate(-1, 1));
            x.refused(ARGUMENT, h -> h.populate(0, 0));
            x.refused(ARGUMENT, h -> h.populate(0, 41));
            Pair half = x.another();
            half.arrays(20, 0);
            half.refused(STATE, h -> h.populate(0, 21));
            half.due(40, h -> h.populate(0, 20));
        });
    }
}
