/** The sentences of promises 22 to 27. */
final class DominatorBoundaries extends Boundaries {
    static void tell(Sentences book) {
        dominates(book);
        dominator(book);
        depth(book);
        dominatedAt(book);
        retainedSize(book);
        retainedObjects(book);
    }

    /** The root 0 leads to 1 and 2, both lead to 3, and 3 to 4; the root 5 leads to 6; 7 leads to 4 and is not reachable. */
    private static void diamond(Pair x) {
        x.arrays(8, 2);
        x.roots(0, 5);
        x.refers(0, 1, 2);
        x.refers(1, 3);
        x.refers(2, 3);
        x.refers(3, 4);
        x.refers(5, 6);
        x.refers(7, 4);
    }

    private static void dominates(Sentences book) {
        book.in("Promise 22: dominates");
        book.says("Tells whether an object dominates an object.", x -> {
            diamond(x);
            String[] dominators = {"0", "01", "02", "03", "034", "5", "56", ""};
            for (int i = 0; i < 8; i++) {
                int other = i;
                for (int j = 0; j < 8; j++) {
                    int one = j;
                    if (dominators[other].indexOf('0' + one) >= 0) {
                        x.yes(h -> h.dominates(one, other));
                    } else {
                        x.no(h -> h.dominates(one, other));
                    }
                }
            }
        });
        book.says("Returns true if one dominates other.", x -> {
            chain(x, 40);
            x.yes(h -> h.dominates(0, 39));
            x.no(h -> h.dominates(39, 0));
            x.yes(h -> h.dominates(39, 39));
            x.yes(h -> h.dominates(38, 39));
            // A second way that ends shortly before the end is found last and takes away all between.
            x.does(h -> h.resizeArray(0, 2), h -> h.set(0, 1, 39));
            x.no(h -> h.dominates(38, 39));
            x.no(h -> h.dominates(1, 39));
            x.yes(h -> h.dominates(1, 38));
            x.does(h -> h.removeRoot(0, 0));
            x.no(h -> h.dominates(39, 39));
        });
        book.says("Throws `IndexOutOfBoundsException` if one of them does not exist", x -> {
            x.refused(INDEX, h -> h.dominates(0, 0) ? 1 : 0);
            diamond(x);
            noSuchObject(x, 8, (h, object) -> h.dominates(object, 0) ? 1 : 0);
            noSuchObject(x, 8, (h, object) -> h.dominates(0, object) ? 1 : 0);
            noSuchObject(x, 8, (h, object) -> h.dominates(object, object) ? 1 : 0);
        });
    }

    private static void dominator(Sentences book) {
        book.in("Promise 23: dominator");
        book.says("Returns the immediate dominator of an object.", x -> {
            diamond(x);
            int[] due = {NONE, 0, 0, 0, 3, NONE, 5, NONE};
            for (int i = 0; i < 8; i++) {
                int object = i;
                x.dueWithoutChange(due[object], h -> h.dominator(object));
            }
        });
        book.says("Returns its number; NONE if there is none, or the object is not reachable.", x -> {
            x.arrays(4, 1);
            x.refers(0, 1);
            x.refers(1, 0);
            x.due(NONE, h -> h.dominator(0));
            x.roots(0);
            x.due(NONE, h -> h.dominator(0));
            x.due(0, h -> h.dominator(1));
            x.roots(1);
            x.due(NONE, h -> h.dominator(1));
            // Two roots that lead to one object: it has no dominator but itself, although it is no root.
            x.does(h -> h.set(0, 0, 2), h -> h.set(1, 0, 2));
            x.due(NONE, h -> h.dominator(2));
            x.due(NONE, h -> h.dominator(3));
        });
        book.says("Throws `IndexOutOfBoundsException` if there is no such object", x -> {
            x.refused(INDEX, h -> h.dominator(0));
            diamond(x);
            noSuchObject(x, 8, (h, object) -> h.dominator(object));
        });
    }

    private static void depth(Sentences book) {
        book.in("Promise 24: depth");
        book.says("Returns the depth of an object.", x -> {
            diamond(x);
            int[] due = {0, 1, 1, 1, 2, 0, 1, NONE};
            for (int i = 0; i < 8; i++) {
                int object = i;
                x.dueWithoutChange(due[object], h -> h.depth(object));
            }
        });
        book.says("Returns the depth; NONE if it is not reachable.", x -> {
            chain(x, 40);
            x.due(0, h -> h.depth(0));
            x.due(39, h -> h.depth(39));
            x.does(h -> h.removeRoot(0, 0));
            x.due(NONE, h -> h.depth(0));
            x.due(NONE, h -> h.depth(39));
            x.roots(39);
            x.due(0, h -> h.depth(39));
        });
        book.says("Throws `IndexOutOfBoundsException` if there is no such object", x -> {
            x.refused(INDEX, h -> h.depth(0));
            diamond(x);
            noSuchObject(x, 8, (h, object) -> h.depth(object));
        });
    }

    private static void dominatedAt(Sentences book) {
        book.in("Promise 25: dominatedAt");
        book.says("Returns one of the objects whose immediate dominator is an object, or one of the reachable objects without an "
                + "immediate dominator, in ascending order of their numbers.", x -> {
            diamond(x);
            for (int i = 0; i < 3; i++) {
                int index = i;
                x.dueWithoutChange(index + 1, h -> h.dominatedAt(0, index));
            }
            x.due(4, h -> h.dominatedAt(3, 0));
            x.due(6, h -> h.dominatedAt(5, 0));
            // The numbers decide, not the order of the slots.
            Pair y = x.another();
            y.arrays(5, 4);
            y.refers(4, 3, 0, 2, 1);
            y.roots(4);
            for (int i = 0; i < 4; i++) {
                int index = i;
                y.due(index, h -> h.dominatedAt(4, index));
            }
        });
        book.says("`object`: the object, or NONE for those without an immediate dominator", x -> {
            x.due(NONE, h -> h.dominatedAt(NONE, 0));
            diamond(x);
            x.dueWithoutChange(0, h -> h.dominatedAt(NONE, 0));
            x.dueWithoutChange(5, h -> h.dominatedAt(NONE, 1));
            // 7 has no immediate dominator, but is not reachable either.
            x.due(NONE, h -> h.dominatedAt(NONE, 2));
            // 4 is now reached from both roots.
            x.refers(6, 4);
            x.due(4, h -> h.dominatedAt(NONE, 1));
            x.due(5, h -> h.dominatedAt(NONE, 2));
            x.due(NONE, h -> h.dominatedAt(NONE, 3));
        });
        book.says("`index`: from 0", x -> {
            diamond(x);
            x.due(1, h -> h.dominatedAt(0, 0));
            x.due(0, h -> h.dominatedAt(NONE, 0));
            Pair roots = x.another();
            roots.arrays(40, 0);
            for (int i = 0; i < 40; i++) {
                roots.roots(i);
            }
            roots.due(0, h -> h.dominatedAt(NONE, 0));
            roots.due(39, h -> h.dominatedAt(NONE, 39));
            roots.due(NONE, h -> h.dominatedAt(NONE, 40));
        });
        book.says("Returns the number of the object; NONE if there is no such index.", x -> {
            diamond(x);
            x.due(3, h -> h.dominatedAt(0, 2));
            for (int index : outside(0, 2)) {
                x.dueWithoutChange(NONE, h -> h.dominatedAt(0, index));
                x.dueWithoutChange(NONE, h -> h.dominatedAt(NONE, index));
                x.dueWithoutChange(NONE, h -> h.dominatedAt(7, index));
            }
            for (int object : numbers(1, 2, 4, 6, 7)) {
                x.due(NONE, h -> h.dominatedAt(object, 0));
            }
            x.due(NONE, h -> h.dominatedAt(3, 1));
        });
        book.says("Throws `IndexOutOfBoundsException` if object is neither NONE nor an object", x -> {
            x.refused(INDEX, h -> h.dominatedAt(0, 0));
            diamond(x);
            for (int object : outside(0, 39)) {
                if (object != NONE) {
                    x.refused(INDEX, h -> h.dominatedAt(object, 0));
                    x.refused(INDEX, h -> h.dominatedAt(object, -1));
                }
            }
            x.refused(INDEX, h -> h.dominatedAt(8, 0));
            x.refused(INDEX, h -> h.dominatedAt(39, 0));
        });
    }

    private static void retainedSize(Sentences book) {
        book.in("Promise 26: retainedSize");
        book.says("Returns the retained size of an object.", x -> {
            diamond(x);
            int[] due = {5 * 24, 24, 24, 48, 24, 48, 24, 0};
            for (int i = 0; i < 8; i++) {
                int object = i;
                x.dueWithoutChange(due[object], h -> h.retainedSize(object));
            }
            x.does(h -> h.resizeArray(4, 8));
            x.due(5 * 24 + 24, h -> h.retainedSize(0));
            x.due(72, h -> h.retainedSize(3));
        });
        book.says("Returns the size; 0 if it is not reachable.", x -> {
            x.does(h -> h.newArray(1), h -> h.newArray(8), h -> h.set(0, 0, 1));
            x.due(0, h -> h.retainedSize(0));
            x.due(0, h -> h.retainedSize(1));
            x.roots(1);
            x.due(0, h -> h.retainedSize(0));
            x.due(48, h -> h.retainedSize(1));
            x.roots(0);
            x.due(24, h -> h.retainedSize(0));
            Pair full = x.another();
            chain(full, 40);
            full.due(40 * 24, h -> h.retainedSize(0));
        });
        book.says("Throws `IndexOutOfBoundsException` if there is no such object", x -> {
            x.refused(INDEX, h -> h.retainedSize(0));
            diamond(x);
            noSuchObject(x, 8, (h, object) -> h.retainedSize(object));
        });
    }

    private static void retainedObjects(Sentences book) {
        book.in("Promise 27: retainedObjects");
        book.says("Returns how many objects an object retains.", x -> {
            diamond(x);
            int[] due = {5, 1, 1, 2, 1, 2, 1, 0};
            for (int i = 0; i < 8; i++) {
                int object = i;
                x.dueWithoutChange(due[object], h -> h.retainedObjects(object));
            }
        });
        book.says("Returns the number; 0 if it is not reachable.", x -> {
            chain(x, 40);
            x.due(40, h -> h.retainedObjects(0));
            x.due(1, h -> h.retainedObjects(39));
            x.does(h -> h.removeRoot(0, 0));
            x.due(0, h -> h.retainedObjects(0));
            x.due(0, h -> h.retainedObjects(39));
        });
        book.says("Throws `IndexOutOfBoundsException` if there is no such object", x -> {
            x.refused(INDEX, h -> h.retainedObjects(0));
            diamond(x);
            noSuchObject(x, 8, (h, object) -> h.retainedObjects(object));
        });
    }
}
