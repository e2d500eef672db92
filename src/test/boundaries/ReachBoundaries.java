/** The sentences of REACHABILITY and of promises 20, 21 and 28 to 31. */
final class ReachBoundaries extends Boundaries {
    static void tell(Sentences book) {
        referencesAndPaths(book);
        dominators(book);
        retained(book);
        components(book);
        distance(book);
        pathAt(book);
        component(book);
        componentSize(book);
        freedByClearing(book);
        freedByUnrooting(book);
    }

    private static void referencesAndPaths(Sentences book) {
        book.in("REACHABILITY");
        book.says("A slot of an object a, which is not a holder, that contains an object b is a reference from a to b; several slots "
                + "are several references.", x -> {
            x.does(h -> h.defineClass(0, 3, 0), h -> h.newArray(8), h -> h.newArray(0), h -> h.newInstance(1));
            x.due(0, h -> h.objectInfo(0, 6));
            x.refers(0, 1, 1, 1, 1, 1, 1, 1, 1);
            x.refers(2, 2, 1, 2);
            x.due(8, h -> h.objectInfo(0, 6));
            x.due(9, h -> h.objectInfo(1, 7));
            x.due(3, h -> h.objectInfo(2, 6));
            x.due(2, h -> h.objectInfo(2, 7));
            x.does(h -> h.set(0, 3, NONE));
            x.due(7, h -> h.objectInfo(0, 6));
            x.due(8, h -> h.objectInfo(1, 7));
        });
        book.says("(The slot of a holder is never a reference.)", x -> {
            x.does(h -> h.newHolder(), h -> h.newArray(1), h -> h.set(0, 0, 1), h -> h.set(1, 0, 0), h -> h.addRoot(0, 0));
            x.due(0, h -> h.objectInfo(0, 6));
            x.due(0, h -> h.objectInfo(1, 7));
            x.due(NONE, h -> h.distance(1));
            x.due(24, h -> h.retainedSize(0));
            x.due(0, h -> h.component(0));
            x.due(1, h -> h.component(1));
            x.due(0, h -> h.freedByClearing(0, 0));
            x.matches(0, "n=0&o>0|n=1&i>0");
            // It does not lead to itself either.
            x.does(h -> h.set(0, 0, 0));
            x.due(1, h -> h.objectInfo(0, 7));
            x.due(0, h -> h.objectInfo(0, 6));
        });
        book.says("A path is a sequence of objects that begins with a root, with a reference from each object to the next one.", x -> {
            chain(x, 40);
            for (int i = 0; i < 40; i++) {
                int index = i;
                x.due(index, h -> h.pathAt(39, index));
            }
            // A sequence that does not begin with a root is no path.
            x.does(h -> h.removeRoot(0, 0), h -> h.addRoot(20, 1));
            x.due(20, h -> h.pathAt(39, 0));
            x.due(NONE, h -> h.pathAt(19, 0));
            x.does(h -> h.set(30, 0, NONE));
            x.due(NONE, h -> h.pathAt(39, 0));
        });
        book.says("An object is reachable if a path ends with it.", x -> {
            x.arrays(5, 2);
            x.refers(0, 1);
            x.refers(1, 0);
            x.refers(2, 2);
            x.refers(3, 4);
            x.due(0, h -> h.group(10, 1, false));
            x.roots(3);
            // A root is a path of its own.
            x.due(0, h -> h.distance(3));
            x.due(1, h -> h.distance(4));
            x.due(NONE, h -> h.distance(0));
            x.due(NONE, h -> h.distance(2));
            x.due(2, h -> h.group(10, 1, false));
        });
        book.says("Its distance is the number of references on the shortest such path.", x -> {
            chain(x, 40);
            x.due(0, h -> h.distance(0));
            x.due(1, h -> h.distance(1));
            x.due(39, h -> h.distance(39));
            x.does(h -> h.resizeArray(0, 2), h -> h.set(0, 1, 38));
            x.due(2, h -> h.distance(39));
            x.due(37, h -> h.distance(37));
            x.roots(39);
            x.due(0, h -> h.distance(39));
        });
        book.says("Its path is, of the shortest ones that end with it, the lexicographically smallest one by the numbers of the objects.", x -> {
            // 0-9-11 goes before 0-10-11: numbers are compared, not their digits, and not the slots' order.
            x.arrays(13, 3);
            x.roots(0);
            x.refers(0, 10, 9);
            x.refers(9, 11);
            x.refers(10, 11);
            x.due(0, h -> h.pathAt(11, 0));
            x.due(9, h -> h.pathAt(11, 1));
            x.due(11, h -> h.pathAt(11, 2));
            // A longer one does not count, however small its numbers are: 0-9-1-2-12 against 0-10-12.
            x.does(h -> h.set(9, 1, 1), h -> h.set(1, 0, 2), h -> h.set(2, 0, 12), h -> h.set(10, 1, 12));
            x.due(10, h -> h.pathAt(12, 1));
            x.due(12, h -> h.pathAt(12, 2));
            // The first difference decides, not a later one: 3-8-7 goes before 4-5-7.
            Pair y = x.another();
            y.arrays(9, 1);
            y.roots(3, 4);
            y.refers(4, 5);
            y.refers(5, 7);
            y.refers(3, 8);
            y.refers(8, 7);
            y.due(3, h -> h.pathAt(7, 0));
            y.due(8, h -> h.pathAt(7, 1));
        });
    }

    private static void dominators(Sentences book) {
        book.says("An object a dominates an object b if b is reachable and each path that ends with b contains a.", x -> {
            // 0 leads to 1 and 2, both to 3; 4 is not reachable and leads to 3 and to itself.
            x.arrays(5, 2);
            x.roots(0);
            x.refers(0, 1, 2);
            x.refers(1, 3);
            x.refers(2, 3);
            x.refers(4, 3, 4);
            x.yes(h -> h.dominates(0, 3));
            x.yes(h -> h.dominates(3, 3));
            x.no(h -> h.dominates(1, 3));
            x.no(h -> h.dominates(3, 0));
            x.no(h -> h.dominates(4, 4));
            x.no(h -> h.dominates(4, 3));
            x.no(h -> h.dominates(0, 4));
            // A root is a path by itself, which contains nothing else.
            x.roots(3);
            x.no(h -> h.dominates(0, 3));
            x.yes(h -> h.dominates(3, 3));
            for (int[] targets : new int[][] {{2}, {2, 9}, {2, 9, 2}}) {
                Pair y = x.another();
                y.arrays(10, 4);
                join(y, targets);
            }
            // The same with a reference from each object to the root.
            Pair back = x.another();
            back.arrays(10, 4);
            for (int object = 0; object < 10; object++) {
                int each = object;
                back.does(h -> h.set(each, 3, 0));
            }
            join(back, numbers(2));
        });
        book.says("The immediate dominator of b is the dominator of b other than b itself that is dominated by all these; there is none "
                + "if b has no other dominator than itself.", x -> {
            chain(x, 4);
            x.due(NONE, h -> h.dominator(0));
            x.due(0, h -> h.dominator(1));
            x.due(2, h -> h.dominator(3));
            // 3 is reached by 1 as well, then from a second root.
            x.does(h -> h.resizeArray(1, 2), h -> h.set(1, 1, 3));
            x.due(1, h -> h.dominator(3));
            x.does(h -> h.newArray(1), h -> h.set(4, 0, 3), h -> h.addRoot(4, 2));
            x.due(NONE, h -> h.dominator(3));
            x.yes(h -> h.dominates(3, 3));
        });
        book.says("The depth of a reachable object is the number of its dominators other than itself.", x -> {
            chain(x, 40);
            x.due(0, h -> h.depth(0));
            x.due(1, h -> h.depth(1));
            x.due(39, h -> h.depth(39));
            // 3 has the distance 2, but 0 alone dominates it.
            Pair y = x.another();
            y.arrays(5, 2);
            y.roots(0);
            y.refers(0, 1, 2);
            y.refers(1, 3);
            y.refers(2, 3);
            y.due(1, h -> h.depth(3));
            y.due(2, h -> h.distance(3));
            y.roots(3);
            y.due(0, h -> h.depth(3));
            y.due(NONE, h -> h.depth(4));
        });
    }

    /** 0-1-2-3-4, and a longer way from 0 to 2, by 5, 6, 7 and 8, which is found late: 1 dominates none of 2, 3 and 4. */
    private static void join(Pair x, int[] targetsOfLast) {
        x.roots(0);
        x.refers(0, 1, 5);
        x.refers(8, targetsOfLast);
        for (int object : numbers(1, 2, 3, 5, 6, 7)) {
            x.refers(object, object + 1);
        }
        for (int object : numbers(2, 3, 4)) {
            x.no(h -> h.dominates(1, object));
            x.no(h -> h.dominates(8, object));
            x.yes(h -> h.dominates(0, object));
            x.yes(h -> h.dominates(2, object));
        }
        x.yes(h -> h.dominates(5, 8));
    }

    private static void retained(Sentences book) {
        book.says("The objects that a set of objects retains are those that are reachable, but would not be if the objects of the set did "
                + "not exist (the reachable objects of the set included).", x -> {
            // The roots 0 and 1 both lead to 2, which leads to 3; 4 is not reachable and leads to 5, 5 to 3.
            x.arrays(6, 1);
            x.roots(0, 1);
            x.refers(0, 2);
            x.refers(1, 2);
            x.refers(2, 3);
            x.refers(4, 5);
            x.refers(5, 3);
            int[] sizes = {0, 0, 24, 24, 48, 96, 96, 24};
            String[] sets = {"n>39", "n>3", "n=0", "n=0|n>3", "n=2", "n<2", "n<40", "n=3|n=4"};
            for (int i = 0; i < sets.length; i++) {
                int size = sizes[i];
                x.writes(sets[i]);
                x.dueWithoutChange(size, h -> h.matchSize(true));
            }
            Pair y = x.another();
            chain(y, 4);
            int[] retained = {96, 72, 48, 24};
            for (int i = 0; i < 4; i++) {
                int size = retained[i];
                y.writes("n=" + i);
                y.due(size, h -> h.matchSize(true));
            }
        });
        book.says("The retained size of a set is the sum of their sizes.", x -> {
            x.does(h -> h.newArray(8), h -> h.newArray(0), h -> h.newHolder(), h -> h.newInstance(0));
            x.refers(0, 1, 2, 1, 2);
            x.roots(0, 3);
            x.writes("n=0");
            x.due(48 + 16 + 24, h -> h.matchSize(true));
            x.writes("n=1|n=3");
            x.due(32, h -> h.matchSize(true));
            x.due(88, h -> h.retainedSize(0));
            x.due(16, h -> h.retainedSize(1));
        });
        book.says("An object retains what it dominates.", x -> {
            chain(x, 5);
            for (int i = 0; i < 5; i++) {
                int object = i;
                x.due(5 - object, h -> h.retainedObjects(object));
                x.due(24 * (5 - object), h -> h.retainedSize(object));
                for (int j = 0; j < 5; j++) {
                    int other = j;
                    if (object <= other) {
                        x.yes(h -> h.dominates(object, other));
                    } else {
                        x.no(h -> h.dominates(object, other));
                    }
                }
            }
        });
    }

    private static void components(Sentences book) {
        book.says("Two objects are in the same component if they are the same, or each one leads to the other one by references "
                + "(whether they are reachable or not).", x -> {
            // 0 to 39 are one cycle, in which nothing is reachable.
            x.arrays(40, 1);
            x.due(1, h -> h.componentSize(39));
            for (int object = 0; object < 39; object++) {
                x.refers(object, object + 1);
            }
            x.due(39, h -> h.component(39));
            x.refers(39, 0);
            x.due(40, h -> h.componentSize(0));
            x.due(0, h -> h.component(39));
            x.roots(17);
            x.due(40, h -> h.componentSize(39));
            x.does(h -> h.set(20, 0, NONE));
            x.due(1, h -> h.componentSize(0));
            x.due(20, h -> h.component(20));
        });
        book.says("A component has the number of its lowest object.", x -> {
            x.arrays(6, 2);
            x.refers(5, 3);
            x.refers(3, 4, 0);
            x.refers(4, 5);
            x.refers(0, 1);
            x.refers(1, 1);
            for (int object : numbers(3, 4, 5)) {
                x.due(3, h -> h.component(object));
            }
            for (int object : numbers(0, 1, 2)) {
                x.due(object, h -> h.component(object));
            }
            x.does(h -> h.set(1, 1, 5));
            for (int object : numbers(0, 1, 3, 4, 5)) {
                x.due(0, h -> h.component(object));
            }
        });
    }

    private static void distance(Sentences book) {
        book.in("Promise 20: distance");
        book.says("Returns the distance of an object.", x -> {
            chain(x, 40);
            for (int i = 0; i < 40; i++) {
                int object = i;
                x.dueWithoutChange(object, h -> h.distance(object));
            }
        });
        book.says("Returns the distance; NONE if it is not reachable.", x -> {
            x.arrays(3, 1);
            x.due(NONE, h -> h.distance(0));
            x.refers(0, 1);
            x.refers(1, 0);
            x.due(NONE, h -> h.distance(0));
            x.roots(2);
            x.due(0, h -> h.distance(2));
            x.due(NONE, h -> h.distance(1));
            x.refers(2, 0);
            x.due(2, h -> h.distance(1));
        });
        book.says("Throws `IndexOutOfBoundsException` if there is no such object", x -> {
            x.refused(INDEX, h -> h.distance(0));
            chain(x, 3);
            noSuchObject(x, 3, (h, object) -> h.distance(object));
        });
    }

    private static void pathAt(Sentences book) {
        book.in("Promise 21: pathAt");
        book.says("Returns an object of the path of an object.", x -> {
            x.arrays(6, 2);
            x.roots(5, 4);
            x.refers(5, 0);
            x.refers(4, 1);
            x.refers(0, 3);
            x.refers(1, 3);
            x.dueWithoutChange(4, h -> h.pathAt(3, 0));
            x.dueWithoutChange(1, h -> h.pathAt(3, 1));
            x.dueWithoutChange(3, h -> h.pathAt(3, 2));
            x.dueWithoutChange(5, h -> h.pathAt(0, 0));
        });
        book.says("`index`: 0 for the root, and so on to the distance for the object itself", x -> {
            chain(x, 40);
            x.due(0, h -> h.pathAt(39, 0));
            x.due(38, h -> h.pathAt(39, 38));
            x.due(39, h -> h.pathAt(39, 39));
            x.due(0, h -> h.pathAt(0, 0));
            x.due(0, h -> h.pathAt(1, 0));
            x.due(1, h -> h.pathAt(1, 1));
        });
        book.says("Returns the number of the object there; NONE if there is no such index, or the object is not reachable.", x -> {
            chain(x, 3);
            x.does(h -> h.newArray(1), h -> h.set(3, 0, 0));
            x.due(2, h -> h.pathAt(2, 2));
            for (int index : outside(0, 2)) {
                x.dueWithoutChange(NONE, h -> h.pathAt(2, index));
            }
            x.due(NONE, h -> h.pathAt(0, 1));
            x.due(NONE, h -> h.pathAt(0, -1));
            for (int index : numbers(-1, 0, 1, 99, Integer.MIN_VALUE, Integer.MAX_VALUE)) {
                x.due(NONE, h -> h.pathAt(3, index));
            }
        });
        book.says("Throws `IndexOutOfBoundsException` if there is no such object", x -> {
            x.refused(INDEX, h -> h.pathAt(0, 0));
            chain(x, 3);
            noSuchObject(x, 3, (h, object) -> h.pathAt(object, 0));
            noSuchObject(x, 3, (h, object) -> h.pathAt(object, -1));
        });
    }

    private static void component(Sentences book) {
        book.in("Promise 28: component");
        book.says("Returns the component of an object.", x -> {
            x.arrays(3, 1);
            x.refers(1, 2);
            x.refers(2, 1);
            x.dueWithoutChange(0, h -> h.component(0));
            x.dueWithoutChange(1, h -> h.component(1));
            x.dueWithoutChange(1, h -> h.component(2));
        });
        book.says("Returns the number of the component.", x -> {
            x.arrays(40, 1);
            x.due(39, h -> h.component(39));
            x.refers(39, 0);
            x.due(39, h -> h.component(39));
            x.refers(0, 39);
            x.due(0, h -> h.component(39));
            x.roots(39);
            x.due(0, h -> h.component(39));
        });
        book.says("Throws `IndexOutOfBoundsException` if there is no such object", x -> {
            x.refused(INDEX, h -> h.component(0));
            chain(x, 3);
            noSuchObject(x, 3, (h, object) -> h.component(object));
        });
    }

    private static void componentSize(Sentences book) {
        book.in("Promise 29: componentSize");
        book.says("Returns the number of objects in the component of an object.", x -> {
            // Two cycles, the first of which leads to the second, and an object that leads to itself.
            x.arrays(6, 2);
            x.refers(0, 1);
            x.refers(1, 0, 2);
            x.refers(2, 3);
            x.refers(3, 4);
            x.refers(4, 2);
            x.refers(5, 5);
            int[] sizes = {2, 2, 3, 3, 3, 1};
            for (int i = 0; i < 6; i++) {
                int object = i;
                x.dueWithoutChange(sizes[object], h -> h.componentSize(object));
            }
        });
        book.says("Returns the number of objects.", x -> {
            x.does(h -> h.newArray(1));
            x.due(1, h -> h.componentSize(0));
            x.does(h -> h.newHolder(), h -> h.set(0, 0, 1), h -> h.set(1, 0, 0));
            // The cycle would go through the slot of a holder.
            x.due(1, h -> h.componentSize(0));
            x.due(1, h -> h.componentSize(1));
        });
        book.says("Throws `IndexOutOfBoundsException` if there is no such object", x -> {
            x.refused(INDEX, h -> h.componentSize(0));
            chain(x, 3);
            noSuchObject(x, 3, (h, object) -> h.componentSize(object));
        });
    }

    private static void freedByClearing(Sentences book) {
        book.in("Promise 30: freedByClearing");
        book.says("Tells what would not be reachable any more if a slot were empty.", x -> {
            x.arrays(4, 8);
            x.roots(0);
            x.refers(0, 1, 2, 2);
            x.refers(1, 3);
            x.refers(3, 1);
            x.due(96, h -> h.freedByClearing(0, 0));
            // Another slot contains 2 as well; the others are empty.
            x.due(0, h -> h.freedByClearing(0, 1));
            x.due(0, h -> h.freedByClearing(0, 2));
            x.due(0, h -> h.freedByClearing(0, 7));
            x.due(48, h -> h.freedByClearing(1, 0));
            x.due(0, h -> h.freedByClearing(3, 0));
            x.roots(1);
            x.due(0, h -> h.freedByClearing(0, 0));
            // The root is not the object 0, and the last object and slot count like the first ones.
            Pair y = x.another();
            y.arrays(40, 8);
            y.roots(39);
            y.does(h -> h.set(39, 7, 0), h -> h.set(0, 0, 38));
            y.due(96, h -> h.freedByClearing(39, 7));
            y.due(48, h -> h.freedByClearing(0, 0));
        });
        book.says("Nothing changes.", x -> {
            chain(x, 3);
            x.dueWithoutChange(48, h -> h.freedByClearing(0, 0));
            x.due(1, h -> h.get(0, 0));
            x.due(2, h -> h.distance(2));
            x.due(72, h -> h.retainedSize(0));
            x.dueWithoutChange(48, h -> h.freedByClearing(0, 0));
            x.due(0, h -> h.collect());
        });
        book.says("Returns the sum of the sizes of the objects that are reachable, but would not be.", x -> {
            x.does(h -> h.newArray(1), h -> h.newArray(8), h -> h.newHolder(), h -> h.newArray(0), h -> h.newArray(2));
            x.roots(0);
            x.refers(0, 1);
            x.refers(1, 2, 3, 0);
            x.due(48 + 24 + 16, h -> h.freedByClearing(0, 0));
            x.due(24, h -> h.freedByClearing(1, 0));
            x.due(16, h -> h.freedByClearing(1, 1));
            x.due(0, h -> h.freedByClearing(1, 2));
            // What is not reachable anyhow is not freed: 4, which leads to itself, and what a holder contains.
            x.refers(4, 4);
            x.due(0, h -> h.freedByClearing(4, 0));
            x.does(h -> h.set(2, 0, 4));
            x.due(0, h -> h.freedByClearing(2, 0));
        });
        book.says("Throws `IndexOutOfBoundsException` if there is no such object or slot", x -> {
            x.refused(INDEX, h -> h.freedByClearing(0, 0));
            x.does(h -> h.newArray(8), h -> h.newHolder(), h -> h.newInstance(0), h -> h.newArray(0));
            noSuchObject(x, 4, (h, object) -> h.freedByClearing(object, 0));
            for (int slot : outside(0, 7)) {
                x.refused(INDEX, h -> h.freedByClearing(0, slot));
            }
            x.refused(INDEX, h -> h.freedByClearing(1, 1));
            x.refused(INDEX, h -> h.freedByClearing(1, -1));
            x.refused(INDEX, h -> h.freedByClearing(2, 0));
            x.refused(INDEX, h -> h.freedByClearing(3, 0));
        });
    }

    private static void freedByUnrooting(Sentences book) {
        book.in("Promise 31: freedByUnrooting");
        book.says("Tells what would not be reachable any more if an object had no root kind.", x -> {
            chain(x, 4);
            x.due(96, h -> h.freedByUnrooting(0));
            // All kinds go at once.
            x.does(h -> h.addRoot(0, 1), h -> h.addRoot(0, 2));
            x.due(96, h -> h.freedByUnrooting(0));
            x.roots(2);
            x.due(48, h -> h.freedByUnrooting(0));
            x.due(0, h -> h.freedByUnrooting(2));
            x.refers(3, 0);
            x.due(0, h -> h.freedByUnrooting(0));
        });
        book.says("Nothing changes.", x -> {
            chain(x, 3);
            x.dueWithoutChange(72, h -> h.freedByUnrooting(0));
            x.due(1, h -> h.objectInfo(0, 5));
            x.due(0, h -> h.distance(0));
            x.dueWithoutChange(72, h -> h.freedByUnrooting(0));
            x.due(0, h -> h.collect());
        });
        book.says("Returns the sum of the sizes of the objects that are reachable, but would not be.", x -> {
            x.does(h -> h.newArray(8), h -> h.newArray(0), h -> h.newHolder(), h -> h.newArray(1));
            x.refers(0, 1, 2);
            x.refers(3, 3);
            for (int object : numbers(0, 1, 2, 3)) {
                x.due(0, h -> h.freedByUnrooting(object));
            }
            x.roots(0);
            x.due(48 + 16 + 24, h -> h.freedByUnrooting(0));
            x.due(0, h -> h.freedByUnrooting(1));
            x.due(0, h -> h.freedByUnrooting(3));
            // A root that refers to itself does not keep itself.
            x.roots(3);
            x.due(24, h -> h.freedByUnrooting(3));
        });
        book.says("Throws `IndexOutOfBoundsException` if there is no such object", x -> {
            x.refused(INDEX, h -> h.freedByUnrooting(0));
            chain(x, 3);
            noSuchObject(x, 3, (h, object) -> h.freedByUnrooting(object));
        });
    }
}
