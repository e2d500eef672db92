/** The sentences of PICTURES and of promises 43 to 45. */
final class PictureBoundaries extends Boundaries {
    static void tell(Sentences book) {
        terms(book);
        take(book);
        compare(book);
        compareRefused(book);
        growth(book);
    }

    private static void terms(Sentences book) {
        book.in("PICTURES");
        book.says("There are two pictures, numbered 0 and 1; each is empty at first, or contains all objects at the time when it was taken.", x -> {
            x.refused(STATE, h -> h.compare(0, 0));
            x.refused(STATE, h -> h.compare(1, 0));
            x.refused(INDEX, h -> h.compare(2, 0));
            x.refused(INDEX, h -> h.compare(-1, 0));
            x.arrays(3, 1);
            x.roots(0);
            // Also those that are not reachable.
            x.due(3, h -> h.take(0));
            x.refused(STATE, h -> h.compare(1, 0));
            x.does(h -> h.collect());
            x.due(2, h -> h.compare(0, 1));
            x.due(1, h -> h.take(1));
            x.due(0, h -> h.compare(1, 1));
            x.due(2, h -> h.compare(0, 1));
            // A picture of a heap without objects was taken, too: it is not one of those that are empty at first.
            Pair none = x.another();
            none.due(0, h -> h.take(0));
            none.does(h -> h.newArray(0));
            none.due(1, h -> h.compare(0, 0));
            none.due(16, h -> h.compare(0, 3));
            none.due(1, h -> h.growth(0, 10));
            none.refused(STATE, h -> h.compare(1, 0));
        });
        book.says("An object of a picture and an object of the heap are the same object if they have the same serial number.", x -> {
            // The array 0 is removed, and another one gets its number, but not its serial number.
            x.arrays(1, 1);
            x.does(h -> h.take(0), h -> h.collect());
            x.arrays(1, 1);
            x.due(1, h -> h.compare(0, 0));
            x.due(1, h -> h.compare(0, 1));
            x.due(0, h -> h.compare(0, 2));
            // Undo gives a serial number once more: the holder is the same object as the array, at another number, too.
            Pair y = x.another();
            y.does(h -> h.newHolder(), h -> h.addRoot(0, 0), h -> h.newArray(1), h -> h.take(0), h -> h.undo(), h -> h.newHolder());
            y.due(0, h -> h.compare(0, 0));
            y.due(0, h -> h.compare(0, 1));
            y.due(0, h -> h.compare(0, 2));
            y.due(0, h -> h.compare(0, 3));
            Pair z = x.another();
            z.arrays(3, 0);
            z.does(h -> h.addRoot(2, 0), h -> h.take(1), h -> h.undo(), h -> h.undo(), h -> h.collect(), h -> h.newArray(0));
            z.due(3, h -> h.objectInfo(0, 1));
            z.due(0, h -> h.compare(1, 0));
            z.due(2, h -> h.compare(1, 1));
            z.due(1, h -> h.compare(1, 2));
        });
        book.says("Such an object has changed if its set of root kinds or its number of slots is not the same, or if some slot is empty in one "
                + "of both and not in the other one, or contains objects with different serial numbers.", x -> {
            x.arrays(3, 8);
            x.does(h -> h.set(0, 7, 1), h -> h.addRoot(0, 0), h -> h.addRoot(1, 0), h -> h.addRoot(2, 0), h -> h.take(0));
            x.due(0, h -> h.compare(0, 2));
            changes(x, h -> h.addRoot(0, 1));
            changes(x, h -> h.removeRoot(0, 0));
            changes(x, h -> h.resizeArray(0, 7));
            changes(x, h -> h.resizeArray(2, 7));
            changes(x, h -> h.set(0, 7, NONE));
            changes(x, h -> h.set(0, 0, 0));
            changes(x, h -> h.set(0, 7, 2));
            // The age is not among these, nor what others have become.
            x.does(h -> h.collect());
            x.due(0, h -> h.compare(0, 2));
            x.does(h -> h.addRoot(0, 1), h -> h.set(1, 0, 0), h -> h.resizeArray(2, 0));
            x.due(3, h -> h.compare(0, 2));
            x.does(h -> h.removeRoot(0, 1), h -> h.set(1, 0, NONE), h -> h.resizeArray(2, 8));
            x.due(0, h -> h.compare(0, 2));
            sameNumberOtherSerial(x.another());
            Pair y = x.another();
            y.arrays(39, 0);
            y.does(h -> h.newArray(8), h -> h.set(39, 7, 38), h -> h.take(0));
            y.due(0, h -> h.compare(0, 2));
            changes(y, h -> h.set(39, 7, 37));
            changes(y, h -> h.set(39, 6, 38));
            Pair z = x.another();
            z.does(h -> h.newInstance(0), h -> h.newHolder(), h -> h.take(0));
            changes(z, h -> h.addRoot(0, 2));
            changes(z, h -> h.set(1, 0, 1));
        });
    }

    private static void changes(Pair x, Pair.Call call) {
        x.does(call);
        x.due(1, h -> h.compare(0, 2));
        x.does(h -> h.undo());
        x.due(0, h -> h.compare(0, 2));
    }

    /** The slot contains the number 1 before and after, but of different objects; a holder's slot counts, too. */
    private static void sameNumberOtherSerial(Pair x) {
        x.does(h -> h.newArray(1), h -> h.newArray(0), h -> h.newHolder());
        x.does(h -> h.addRoot(0, 0), h -> h.addRoot(2, 0), h -> h.set(0, 0, 1), h -> h.set(2, 0, 1), h -> h.take(0));
        x.does(h -> h.set(0, 0, NONE), h -> h.collect());
        x.due(NONE, h -> h.referent(2));
        x.due(2, h -> h.compare(0, 2));
        x.due(1, h -> h.newArray(0));
        x.does(h -> h.set(0, 0, 1), h -> h.set(2, 0, 1));
        x.due(2, h -> h.compare(0, 2));
        x.does(h -> h.take(0));
        x.due(0, h -> h.compare(0, 2));
    }

    private static void take(Sentences book) {
        book.in("Promise 43: take");
        book.says("Takes a picture, in place of the earlier one.", x -> {
            x.does(h -> h.newArray(0), h -> h.take(0), h -> h.newArray(0));
            x.due(1, h -> h.compare(0, 0));
            x.does(h -> h.take(0));
            x.due(0, h -> h.compare(0, 0));
            // A picture is not undoable, and undo does not bring an earlier one back.
            x.does(h -> h.undo(), h -> h.undo());
            x.due(0, h -> h.objects());
            x.due(2, h -> h.compare(0, 1));
            x.refused(STATE, h -> h.undo());
        });
        book.says("`picture`: 0 or 1", x -> {
            x.due(0, h -> h.take(0));
            x.does(h -> h.newArray(0));
            x.due(1, h -> h.take(1));
            x.due(1, h -> h.compare(0, 0));
            x.due(0, h -> h.compare(1, 0));
        });
        book.says("Returns the number of objects in it.", x -> {
            x.due(0, h -> h.take(0));
            x.does(h -> h.newHolder());
            x.due(1, h -> h.take(0));
            x.does(h -> h.populate(3, 39));
            x.due(40, h -> h.take(1));
            x.due(39, h -> h.compare(0, 0));
            x.does(h -> h.undo());
            x.due(1, h -> h.take(1));
        });
        book.says("Throws `IndexOutOfBoundsException` if there is no such picture", x -> {
            x.does(h -> h.newArray(0), h -> h.take(0), h -> h.newArray(0));
            for (int picture : outside(0, 1)) {
                x.refused(INDEX, h -> h.take(picture));
            }
            x.due(1, h -> h.compare(0, 0));
            x.refused(STATE, h -> h.compare(1, 0));
        });
    }

    private static void compare(Sentences book) {
        book.in("Promise 44: compare");
        book.plain("Compares the heap with a picture.");
        book.plain("Returns that number.");
        book.says("`picture`: 0 or 1", x -> {
            x.does(h -> h.newArray(8), h -> h.take(0), h -> h.newHolder(), h -> h.take(1));
            x.dueWithoutChange(1, h -> h.compare(0, 0));
            x.dueWithoutChange(0, h -> h.compare(1, 0));
            x.dueWithoutChange(24, h -> h.compare(0, 3));
            x.dueWithoutChange(0, h -> h.compare(1, 3));
        });
        book.says("`what`: 0 how many objects of the heap are not in the picture, 1 how many objects of the picture are not in the heap, 2 how "
                + "many objects that are in both have changed, 3 the sum of the sizes of all objects of the heap minus that of all objects of "
                + "the picture (sizes as they were)", x -> {
            x.does(h -> h.newArray(8), h -> h.newHolder(), h -> h.newArray(1), h -> h.addRoot(0, 0), h -> h.take(0));
            facts(x, 0, 0, 0, 0);
            x.does(h -> h.collect());
            facts(x, 0, 2, 0, -48);
            x.does(h -> h.newArray(0), h -> h.newArray(0), h -> h.newArray(0));
            facts(x, 3, 2, 0, 0);
            x.does(h -> h.resizeArray(0, 0), h -> h.addRoot(1, 0));
            facts(x, 3, 2, 1, -32);
            // All of the heap against none of the picture, and the other way round.
            Pair y = x.another();
            y.does(h -> h.take(0));
            y.arrays(40, 8);
            facts(y, 40, 0, 0, 40 * 48);
            y.does(h -> h.take(0), h -> h.collect());
            facts(y, 0, 40, 0, -40 * 48);
            // The class of an instance in the picture is undone, and defined anew with another size.
            Pair z = x.another();
            z.does(h -> h.defineClass(0, 0, 40), h -> h.newInstance(1), h -> h.take(0), h -> h.undo(), h -> h.undo());
            facts(z, 0, 1, 0, -56);
            z.does(h -> h.defineClass(0, 0, 0), h -> h.newInstance(1));
            facts(z, 0, 0, 0, -40);
        });
    }

    private static void facts(Pair x, int... due) {
        for (int i = 0; i <= 3; i++) {
            int what = i;
            x.dueWithoutChange(due[what], h -> h.compare(0, what));
        }
    }

    private static void compareRefused(Sentences book) {
        book.says("Throws `IndexOutOfBoundsException` if there is no such picture", x -> {
            x.does(h -> h.take(0));
            for (int picture : outside(0, 1)) {
                x.refused(INDEX, h -> h.compare(picture, 0));
                x.refused(INDEX, h -> h.compare(picture, 4));
            }
        });
        book.says("Throws `IllegalArgumentException` if what is out of range", x -> {
            x.does(h -> h.take(0));
            for (int what : outside(0, 3)) {
                x.refused(ARGUMENT, h -> h.compare(0, what));
                x.refused(ARGUMENT, h -> h.compare(1, what));
                x.refused(INDEX, h -> h.compare(2, what));
            }
        });
        book.says("Throws `IllegalStateException` if the picture is empty", x -> {
            for (int what : numbers(0, 1, 2, 3)) {
                x.refused(STATE, h -> h.compare(0, what));
                x.refused(STATE, h -> h.compare(1, what));
            }
            x.refused(ARGUMENT, h -> h.compare(0, 4));
            x.refused(INDEX, h -> h.compare(2, 0));
            x.does(h -> h.newArray(0), h -> h.take(1));
            x.refused(STATE, h -> h.compare(0, 0));
            x.due(0, h -> h.compare(1, 0));
            // What was taken stays, whatever undo takes back.
            x.does(h -> h.undo());
            x.due(1, h -> h.compare(1, 1));
        });
    }

    private static void growth(Sentences book) {
        book.in("Promise 45: growth");
        book.says("Tells how a group has grown since a picture was taken.", x -> {
            x.does(h -> h.newHolder(), h -> h.take(0), h -> h.newHolder(), h -> h.newHolder(), h -> h.newArray(0));
            x.dueWithoutChange(2, h -> h.growth(0, 11));
            x.dueWithoutChange(1, h -> h.growth(0, 10));
            x.dueWithoutChange(0, h -> h.growth(0, 0));
        });
        book.says("`picture`: 0 or 1", x -> {
            x.does(h -> h.take(0), h -> h.newArray(0), h -> h.take(1));
            x.due(1, h -> h.growth(0, 10));
            x.due(0, h -> h.growth(1, 10));
        });
        book.says("`group`: 0 to 11", x -> {
            x.does(h -> h.take(0));
            // Also classes that do not exist, or not any more.
            for (int i = 0; i <= 11; i++) {
                int group = i;
                x.due(0, h -> h.growth(0, group));
            }
            for (int number = 1; number <= 9; number++) {
                x.does(h -> h.defineClass(0, 0, 0));
            }
            x.does(h -> h.newInstance(0), h -> h.newInstance(9), h -> h.newInstance(9), h -> h.take(1));
            x.due(1, h -> h.growth(0, 0));
            x.due(2, h -> h.growth(0, 9));
            x.does(h -> h.undo(), h -> h.undo(), h -> h.undo(), h -> h.undo());
            x.due(9, h -> h.classes());
            x.due(-2, h -> h.growth(1, 9));
        });
        book.says("Returns the number of objects of the group (without subclasses) in the heap minus that in the picture.", x -> {
            x.does(h -> h.defineClass(0, 0, 0), h -> h.newInstance(0), h -> h.newInstance(1), h -> h.addRoot(0, 0), h -> h.take(0));
            x.does(h -> h.newInstance(1), h -> h.newInstance(1));
            x.due(0, h -> h.growth(0, 0));
            x.due(2, h -> h.growth(0, 1));
            x.does(h -> h.collect());
            x.due(0, h -> h.growth(0, 0));
            x.due(-1, h -> h.growth(0, 1));
            Pair full = x.another();
            full.does(h -> h.take(0));
            full.arrays(40, 0);
            full.due(40, h -> h.growth(0, 10));
            full.does(h -> h.take(0), h -> h.collect());
            full.due(-40, h -> h.growth(0, 10));
        });
        book.says("Throws `IndexOutOfBoundsException` if there is no such picture, or group is out of range", x -> {
            x.does(h -> h.take(0));
            for (int picture : outside(0, 1)) {
                x.refused(INDEX, h -> h.growth(picture, 0));
                x.refused(INDEX, h -> h.growth(picture, 12));
            }
            for (int group : outside(0, 11)) {
                x.refused(INDEX, h -> h.growth(0, group));
                x.refused(INDEX, h -> h.growth(1, group));
            }
        });
        book.says("Throws `IllegalStateException` if the picture is empty", x -> {
            x.refused(STATE, h -> h.growth(0, 0));
            x.refused(STATE, h -> h.growth(1, 11));
            x.refused(INDEX, h -> h.growth(0, 12));
            x.refused(INDEX, h -> h.growth(2, 0));
            x.does(h -> h.take(0));
            x.due(0, h -> h.growth(0, 0));
            // A class that does not exist is no reason to refuse, an empty picture is.
            x.refused(STATE, h -> h.growth(1, 9));
            x.due(0, h -> h.growth(0, 9));
        });
    }
}
