/** The sentences of CLASSES and of promises 1 to 5. */
final class ClassBoundaries extends Boundaries {
    static void tell(Sentences book) {
        terms(book);
        newBrowser(book);
        defineClass(book);
        classes(book);
        classInfo(book);
        isSubclass(book);
    }

    /** Defines the classes from a number to 9, all below class 0. */
    private static void classesFrom(Pair x, int first) {
        for (int made = first; made <= 9; made++) {
            int number = made;
            x.due(number, h -> h.defineClass(0, 0, 0));
        }
    }

    private static void terms(Sentences book) {
        book.in("CLASSES");
        book.says("There are at most 10 classes, numbered from 0.", x -> {
            classesFrom(x, 1);
            x.due(10, h -> h.classes());
            x.due(NONE, h -> h.classInfo(0, 0));
            x.due(0, h -> h.classInfo(9, 0));
            x.refused(STATE, h -> h.defineClass(0, 0, 0));
            x.refused(INDEX, h -> h.classInfo(10, 0));
            x.refused(INDEX, h -> h.classInfo(-1, 0));
        });
        book.says("Class 0 always exists; it has no superclass, no fields and no data bytes.", x -> {
            x.due(NONE, h -> h.classInfo(0, 0));
            x.due(0, h -> h.classInfo(0, 1));
            x.due(16, h -> h.classInfo(0, 2));
            // 12 and 4 bytes are 16: one data byte of class 0 would make them 24.
            x.due(1, h -> h.defineClass(0, 0, 4));
            x.due(16, h -> h.classInfo(1, 2));
            x.does(h -> h.undo());
            x.refused(STATE, h -> h.undo());
            x.due(1, h -> h.classes());
            x.due(NONE, h -> h.classInfo(0, 0));
            x.due(0, h -> h.newInstance(0));
            x.due(16, h -> h.collect());
            x.due(16, h -> h.classInfo(0, 2));
        });
        book.says("Each other class has a superclass, whose number is smaller, a number of own fields and a number of own data bytes.", x -> {
            x.refused(INDEX, h -> h.defineClass(1, 0, 0));
            x.refused(INDEX, h -> h.defineClass(NONE, 0, 0));
            x.due(1, h -> h.defineClass(0, 1, 9));
            x.refused(INDEX, h -> h.defineClass(2, 0, 0));
            x.due(2, h -> h.defineClass(1, 2, 7));
            x.due(0, h -> h.classInfo(1, 0));
            x.due(1, h -> h.classInfo(2, 0));
            x.due(1, h -> h.classInfo(1, 1));
            x.due(32, h -> h.classInfo(1, 2));
            x.due(40, h -> h.classInfo(2, 2));
        });
        book.says("The fields of a class are its own ones and those of its superclass (with the fields of all classes above it); they are at most 5.", x -> {
            x.due(1, h -> h.defineClass(0, 3, 0));
            x.due(2, h -> h.defineClass(1, 1, 0));
            x.due(3, h -> h.defineClass(2, 1, 0));
            x.due(3, h -> h.classInfo(1, 1));
            x.due(4, h -> h.classInfo(2, 1));
            x.due(5, h -> h.classInfo(3, 1));
            x.refused(ARGUMENT, h -> h.defineClass(3, 1, 0));
            x.refused(ARGUMENT, h -> h.defineClass(2, 2, 0));
            x.due(4, h -> h.defineClass(3, 0, 0));
            x.due(5, h -> h.classInfo(4, 1));
            x.due(0, h -> h.newInstance(4));
            x.due(5, h -> h.objectInfo(0, 4));
        });
        book.says("A class is a subclass of itself, of its superclass, and of all classes of which its superclass is a subclass.", x -> {
            for (int number = 1; number <= 9; number++) {
                int above = number - 1;
                x.does(h -> h.defineClass(above, 0, 0));
            }
            for (int number = 0; number <= 9; number++) {
                int other = number;
                x.yes(h -> h.isSubclass(other, other));
                x.yes(h -> h.isSubclass(9, other));
                x.yes(h -> h.isSubclass(other, 0));
            }
            x.no(h -> h.isSubclass(0, 1));
            x.no(h -> h.isSubclass(8, 9));
        });
    }

    private static void newBrowser(Sentences book) {
        book.in("Promise 1: A new object");
        book.says("Creates a heap with class 0 and without objects; the text and both pictures are empty, no state is saved.", x -> {
            x.due(1, h -> h.classes());
            x.due(0, h -> h.objects());
            x.no(h -> h.exists(0));
            x.no(h -> h.exists(39));
            x.due(0, h -> h.clearText());
            x.due(-10, h -> h.matches());
            for (int what = 0; what <= 3; what++) {
                int asked = what;
                x.refused(STATE, h -> h.compare(0, asked));
                x.refused(STATE, h -> h.compare(1, asked));
            }
            x.refused(STATE, h -> h.growth(0, 0));
            x.refused(STATE, h -> h.growth(1, 11));
            x.refused(STATE, h -> h.undo());
            x.due(0, h -> h.newArray(0));
            x.due(1, h -> h.objectInfo(0, 1));
            x.due(0, h -> h.undo());
        });
    }

    private static void defineClass(Sentences book) {
        book.in("Promise 2: defineClass");
        book.says("Defines a class.", x -> {
            x.does(h -> h.defineClass(0, 2, 5));
            x.due(2, h -> h.classes());
            x.due(0, h -> h.classInfo(1, 0));
            x.due(2, h -> h.classInfo(1, 1));
            x.due(32, h -> h.classInfo(1, 2));
            x.due(1, h -> h.classInfo(0, 3));
            x.due(0, h -> h.newInstance(1));
        });
        book.says("Undoable.", x -> {
            x.does(h -> h.defineClass(0, 3, 40), h -> h.defineClass(1, 2, 0));
            x.due(1, h -> h.undo());
            x.due(2, h -> h.classes());
            x.due(0, h -> h.classInfo(1, 3));
            x.refused(INDEX, h -> h.newInstance(2));
            x.due(0, h -> h.undo());
            x.due(1, h -> h.classes());
            x.refused(INDEX, h -> h.classInfo(1, 0));
            x.due(1, h -> h.defineClass(0, 0, 0));
            x.due(0, h -> h.classInfo(1, 1));
            x.due(16, h -> h.classInfo(1, 2));
        });
        book.says("`fields`: the number of its own fields, 0 to 3", x -> {
            x.due(1, h -> h.defineClass(0, 0, 0));
            x.due(0, h -> h.classInfo(1, 1));
            x.due(2, h -> h.defineClass(0, 3, 0));
            x.due(3, h -> h.classInfo(2, 1));
            for (int fields : outside(0, 3)) {
                x.refused(ARGUMENT, h -> h.defineClass(0, fields, 0));
            }
        });
        book.says("`data`: the number of its own data bytes, 0 to 40", x -> {
            x.due(1, h -> h.defineClass(0, 0, 0));
            x.due(16, h -> h.classInfo(1, 2));
            x.due(2, h -> h.defineClass(0, 0, 40));
            x.due(56, h -> h.classInfo(2, 2));
            x.due(3, h -> h.defineClass(2, 0, 40));
            x.due(96, h -> h.classInfo(3, 2));
            for (int data : outside(0, 40)) {
                x.refused(ARGUMENT, h -> h.defineClass(0, 0, data));
            }
        });
        book.says("Returns the number of the new class.", x -> {
            classesFrom(x, 1);
            x.due(4, h -> h.undo());
            x.due(9, h -> h.defineClass(8, 0, 0));
        });
        book.says("Throws `IndexOutOfBoundsException` if there is no such superclass", x -> {
            x.refused(INDEX, h -> h.defineClass(1, 0, 0));
            x.does(h -> h.defineClass(0, 0, 0));
            for (int superclass : outside(0, 1)) {
                x.refused(INDEX, h -> h.defineClass(superclass, 0, 0));
                x.refused(INDEX, h -> h.defineClass(superclass, 4, 41));
            }
            x.refused(INDEX, h -> h.defineClass(10, 0, 0));
            x.due(2, h -> h.defineClass(1, 0, 0));
            x.does(h -> h.undo());
            x.refused(INDEX, h -> h.defineClass(2, 0, 0));
        });
        book.says("Throws `IllegalArgumentException` if fields or data is out of range, or it would have more than 5 fields", x -> {
            x.does(h -> h.defineClass(0, 3, 0), h -> h.defineClass(1, 2, 0), h -> h.defineClass(0, 2, 0));
            x.refused(ARGUMENT, h -> h.defineClass(0, -1, 0));
            x.refused(ARGUMENT, h -> h.defineClass(0, 4, 0));
            x.refused(ARGUMENT, h -> h.defineClass(0, 0, -1));
            x.refused(ARGUMENT, h -> h.defineClass(0, 0, 41));
            x.refused(ARGUMENT, h -> h.defineClass(1, Integer.MAX_VALUE, 0));
            x.refused(ARGUMENT, h -> h.defineClass(2, -1, 0));
            x.refused(ARGUMENT, h -> h.defineClass(1, 3, 0));
            x.refused(ARGUMENT, h -> h.defineClass(2, 1, 0));
            x.due(4, h -> h.defineClass(3, 3, 0));
            x.due(5, h -> h.classInfo(4, 1));
            x.refused(ARGUMENT, h -> h.defineClass(4, 3, 40));
        });
        book.says("Throws `IllegalStateException` if there are 10 classes", x -> {
            x.does(h -> h.defineClass(0, 3, 0));
            classesFrom(x, 2);
            x.refused(STATE, h -> h.defineClass(0, 0, 0));
            x.refused(STATE, h -> h.defineClass(9, 3, 40));
            x.refused(ARGUMENT, h -> h.defineClass(0, 4, 0));
            x.refused(ARGUMENT, h -> h.defineClass(0, 0, 41));
            x.refused(ARGUMENT, h -> h.defineClass(1, 3, 0));
            x.refused(INDEX, h -> h.defineClass(10, 0, 0));
            x.refused(INDEX, h -> h.defineClass(-1, 4, 41));
            x.due(4, h -> h.undo());
            x.due(9, h -> h.defineClass(0, 0, 0));
            x.refused(STATE, h -> h.defineClass(0, 0, 0));
        });
    }

    private static void classes(Sentences book) {
        book.in("Promise 3: classes");
        book.says("Returns the number of classes.", x -> {
            x.does(h -> h.defineClass(0, 1, 1), h -> h.defineClass(1, 1, 1), h -> h.newInstance(2));
            x.due(3, h -> h.classes());
            x.refused(INDEX, h -> h.defineClass(3, 0, 0));
            x.dueWithoutChange(3, h -> h.classes());
            x.does(h -> h.undo(), h -> h.undo());
            x.due(2, h -> h.classes());
        });
        book.says("Returns 1 to 10.", x -> {
            x.due(1, h -> h.classes());
            classesFrom(x, 1);
            x.due(10, h -> h.classes());
            x.refused(STATE, h -> h.defineClass(0, 0, 0));
            x.due(10, h -> h.classes());
            x.does(h -> h.undo(), h -> h.undo(), h -> h.undo(), h -> h.undo(), h -> h.undo());
            x.due(5, h -> h.classes());
        });
    }

    private static void classInfo(Sentences book) {
        book.in("Promise 4: classInfo");
        book.plain("Returns something about a class.");
        book.plain("Returns that number.");
        book.says("`what`: 0 its superclass (NONE for class 0), 1 the number of its fields, 2 the size of its instances, "
                + "3 the number of classes whose superclass it is", x -> {
            x.due(NONE, h -> h.classInfo(0, 0));
            x.due(0, h -> h.classInfo(0, 1));
            x.due(16, h -> h.classInfo(0, 2));
            x.due(0, h -> h.classInfo(0, 3));
            x.does(h -> h.defineClass(0, 3, 1), h -> h.defineClass(1, 1, 7), h -> h.defineClass(2, 1, 1), h -> h.defineClass(1, 0, 0));
            x.due(0, h -> h.classInfo(1, 0));
            x.due(2, h -> h.classInfo(3, 0));
            x.due(1, h -> h.classInfo(4, 0));
            x.due(3, h -> h.classInfo(1, 1));
            x.due(4, h -> h.classInfo(2, 1));
            x.due(5, h -> h.classInfo(3, 1));
            x.due(32, h -> h.classInfo(1, 2));
            x.due(40, h -> h.classInfo(2, 2));
            x.due(48, h -> h.classInfo(3, 2));
            // Only those directly below it are counted.
            x.due(1, h -> h.classInfo(0, 3));
            x.due(2, h -> h.classInfo(1, 3));
            x.due(1, h -> h.classInfo(2, 3));
            x.due(0, h -> h.classInfo(3, 3));
            Pair wide = x.another();
            classesFrom(wide, 1);
            wide.due(9, h -> h.classInfo(0, 3));
            wide.due(0, h -> h.classInfo(9, 3));
        });
        book.says("Throws `IndexOutOfBoundsException` if there is no such class", x -> {
            x.does(h -> h.defineClass(0, 0, 0));
            for (int number : outside(0, 1)) {
                x.refused(INDEX, h -> h.classInfo(number, 0));
                x.refused(INDEX, h -> h.classInfo(number, 4));
            }
            x.refused(INDEX, h -> h.classInfo(10, 2));
            x.refused(INDEX, h -> h.classInfo(11, 2));
        });
        book.says("Throws `IllegalArgumentException` if what is out of range", x -> {
            for (int what : outside(0, 3)) {
                x.refused(ARGUMENT, h -> h.classInfo(0, what));
            }
        });
    }

    private static void isSubclass(Sentences book) {
        book.in("Promise 5: isSubclass");
        book.says("Tells whether a class is a subclass of another one, or of itself.", x -> {
            x.yes(h -> h.isSubclass(0, 0));
            x.does(h -> h.defineClass(0, 0, 0), h -> h.defineClass(1, 0, 0), h -> h.defineClass(0, 0, 0));
            x.yes(h -> h.isSubclass(3, 3));
            x.yes(h -> h.isSubclass(2, 1));
            x.no(h -> h.isSubclass(2, 3));
            x.no(h -> h.isSubclass(3, 2));
        });
        book.says("Returns true if classNumber is a subclass of other.", x -> {
            x.does(h -> h.defineClass(0, 0, 0), h -> h.defineClass(1, 0, 0));
            x.yes(h -> h.isSubclass(2, 0));
            x.no(h -> h.isSubclass(0, 2));
            x.no(h -> h.isSubclass(1, 2));
        });
        book.says("Throws `IndexOutOfBoundsException` if one of them does not exist", x -> {
            x.does(h -> h.defineClass(0, 0, 0));
            for (int number : outside(0, 1)) {
                x.refused(INDEX, h -> h.isSubclass(number, 0) ? 1 : 0);
                x.refused(INDEX, h -> h.isSubclass(1, number) ? 1 : 0);
                x.refused(INDEX, h -> h.isSubclass(number, number) ? 1 : 0);
            }
        });
    }
}
