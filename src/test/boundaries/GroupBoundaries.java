/** The sentences of promises 32 to 36. */
final class GroupBoundaries extends Boundaries {
    static void tell(Sentences book) {
        group(book);
        meanRetainedBits(book);
        shareBits(book);
        suspectAt(book);
        accumulationPoint(book);
    }

    /**
     * Class 1 is below 0, and 2 below 1, with sizes 16, 24 and 32. The root 1 (of class 1) leads to 2 (of class 2) and to
     * the array 4, 2 leads to 4, and 4 to the holder 5; the holder 6 is a root; 0 (of class 0) and 3 (of class 2) are
     * not reachable.
     */
    static void groups(Pair x) {
        x.does(h -> h.defineClass(0, 2, 0), h -> h.defineClass(1, 0, 8));
        x.does(h -> h.newInstance(0), h -> h.newInstance(1), h -> h.newInstance(2), h -> h.newInstance(2));
        x.does(h -> h.newArray(3), h -> h.newHolder(), h -> h.newHolder());
        x.refers(1, 2, 4);
        x.refers(2, 4);
        x.refers(4, 5);
        x.roots(1, 6);
    }

    private static void group(Sentences book) {
        book.in("Promise 32: group");
        book.plain("Returns something about the objects of a group.");
        book.plain("Returns that number.");
        book.says("`group`: a class, 10 or 11", x -> {
            groups(x);
            int[] counts = {1, 1, 2};
            for (int i = 0; i <= 2; i++) {
                int group = i;
                x.due(counts[group], h -> h.group(group, 0, false));
            }
            x.due(1, h -> h.group(10, 0, false));
            x.due(2, h -> h.group(11, 0, false));
            Pair ten = x.another();
            for (int number = 1; number <= 9; number++) {
                ten.does(h -> h.defineClass(0, 0, 0));
            }
            ten.does(h -> h.newInstance(9), h -> h.newArray(0));
            ten.due(1, h -> h.group(9, 0, false));
            ten.due(1, h -> h.group(10, 0, true));
        });
        book.says("`what`: 0 how many objects there are, 1 how many of them are reachable, 2 the sum of their sizes, 3 the retained size of "
                + "all of them as a set", x -> {
            groups(x);
            int[] groups = {0, 1, 2, 10, 11};
            int[][] facts = {{1, 0, 16, 0}, {1, 1, 24, 112}, {2, 1, 64, 32}, {1, 1, 32, 56}, {2, 2, 48, 48}};
            for (int i = 0; i < groups.length; i++) {
                int group = groups[i];
                for (int j = 0; j <= 3; j++) {
                    int what = j;
                    x.dueWithoutChange(facts[i][what], h -> h.group(group, what, false));
                }
            }
            // As a set they retain what none of them retains alone.
            Pair y = x.another();
            y.arrays(2, 8);
            y.does(h -> h.newHolder());
            y.refers(0, 2);
            y.refers(1, 2);
            y.roots(0, 1);
            y.due(48 + 48 + 24, h -> h.group(10, 3, false));
            // A group without objects.
            y.due(0, h -> h.group(0, 0, true));
            y.due(0, h -> h.group(0, 1, true));
            y.due(0, h -> h.group(0, 2, true));
            y.due(0, h -> h.group(0, 3, true));
        });
        book.says("`subclasses`: true if instances of all subclasses of the class belong to the group, too (without effect for 10 and 11)", x -> {
            groups(x);
            x.due(1, h -> h.group(0, 0, false));
            x.due(4, h -> h.group(0, 0, true));
            x.due(3, h -> h.group(1, 0, true));
            x.due(2, h -> h.group(2, 0, true));
            x.due(2, h -> h.group(0, 1, true));
            x.due(16 + 24 + 64, h -> h.group(0, 2, true));
            x.due(112, h -> h.group(0, 3, true));
            for (int i = 0; i <= 3; i++) {
                int what = i;
                int[] arrays = {1, 1, 32, 56};
                int[] holders = {2, 2, 48, 48};
                x.due(arrays[what], h -> h.group(10, what, true));
                x.due(holders[what], h -> h.group(11, what, true));
            }
        });
        book.says("Throws `IndexOutOfBoundsException` if there is no such class, and group is neither 10 nor 11", x -> {
            groups(x);
            for (int group : outside(0, 11)) {
                x.refused(INDEX, h -> h.group(group, 0, true));
                x.refused(INDEX, h -> h.group(group, 4, false));
            }
            for (int group = 3; group <= 9; group++) {
                int absent = group;
                x.refused(INDEX, h -> h.group(absent, 0, false));
                x.refused(INDEX, h -> h.group(absent, -1, true));
            }
        });
        book.says("Throws `IllegalArgumentException` if what is out of range", x -> {
            groups(x);
            for (int what : outside(0, 3)) {
                x.refused(ARGUMENT, h -> h.group(0, what, true));
                x.refused(ARGUMENT, h -> h.group(10, what, false));
                x.refused(ARGUMENT, h -> h.group(11, what, false));
                x.refused(INDEX, h -> h.group(3, what, false));
            }
        });
    }

    private static void meanRetainedBits(Sentences book) {
        book.in("Promise 33: meanRetainedBits");
        book.says("Returns the mean retained size of the reachable objects of a group (without subclasses).", x -> {
            groups(x);
            x.dueWithoutChange(Double.doubleToLongBits(112.0), h -> h.meanRetainedBits(1));
            // Of the two instances of class 2 one is reachable; those of class 0 are not.
            x.dueWithoutChange(Double.doubleToLongBits(32.0), h -> h.meanRetainedBits(2));
            x.dueWithoutChange(0, h -> h.meanRetainedBits(0));
        });
        book.says("`group`: a class, 10 or 11", x -> {
            groups(x);
            x.due(0, h -> h.meanRetainedBits(0));
            x.due(Double.doubleToLongBits(56.0), h -> h.meanRetainedBits(10));
            x.due(Double.doubleToLongBits(24.0), h -> h.meanRetainedBits(11));
        });
        book.says("Returns the bits, as Double.doubleToLongBits gives them, of the sum of the retained sizes of these objects, each one alone, "
                + "as a double, divided by their number as a double; those of 0.0 if there are none.", x -> {
            x.due(0, h -> h.meanRetainedBits(0));
            x.due(0, h -> h.meanRetainedBits(10));
            x.due(0, h -> h.meanRetainedBits(11));
            // Only one that is not reachable.
            x.does(h -> h.newHolder());
            x.due(0, h -> h.meanRetainedBits(11));
            // Each one alone: 72, 48 and 24.
            Pair nested = x.another();
            chain(nested, 3);
            nested.due(Double.doubleToLongBits(48.0), h -> h.meanRetainedBits(10));
            // Quotients with fractions that go on, rounded to the next double.
            Pair many = x.another();
            int sum = 0;
            for (int i = 0; i < 40; i++) {
                int length = i * 7 % 9;
                int object = i;
                many.does(h -> h.newArray(length), h -> h.addRoot(object, 0));
                sum += (16 + 4 * length + 7) / 8 * 8;
                long due = Double.doubleToLongBits((double) sum / (double) (i + 1));
                many.due(due, h -> h.meanRetainedBits(10));
            }
            // The greatest sum: a chain of 40 instances of 392 bytes each.
            Pair great = x.another();
            great.does(h -> h.defineClass(0, 3, 40), h -> h.defineClass(1, 2, 40));
            for (int number = 3; number <= 9; number++) {
                int above = number - 1;
                great.does(h -> h.defineClass(above, 0, 40));
            }
            for (int i = 0; i < 40; i++) {
                int object = i;
                great.does(h -> h.newInstance(9));
                if (object > 0) {
                    great.does(h -> h.set(object - 1, 0, object));
                }
            }
            great.roots(0);
            great.due(Double.doubleToLongBits(392.0 * 820.0 / 40.0), h -> h.meanRetainedBits(9));
        });
        book.says("Throws `IndexOutOfBoundsException` if there is no such class, and group is neither 10 nor 11", x -> {
            groups(x);
            for (int group : outside(0, 11)) {
                x.refused(INDEX, h -> h.meanRetainedBits(group));
            }
            for (int group = 3; group <= 9; group++) {
                int absent = group;
                x.refused(INDEX, h -> h.meanRetainedBits(absent));
            }
        });
    }

    private static void shareBits(Sentences book) {
        book.in("Promise 34: shareBits");
        book.says("Returns the share of an object in the heap.", x -> {
            groups(x);
            x.dueWithoutChange(Float.floatToIntBits(112.0f / 136.0f), h -> h.shareBits(1));
            x.dueWithoutChange(Float.floatToIntBits(56.0f / 136.0f), h -> h.shareBits(4));
            x.dueWithoutChange(Float.floatToIntBits(24.0f / 136.0f), h -> h.shareBits(6));
        });
        book.says("Returns the bits, as Float.floatToIntBits gives them, of its retained size as a float, divided by the sum of the sizes of "
                + "all reachable objects as a float; those of 0.0f if it is not reachable.", x -> {
            // Nothing is reachable at all.
            x.does(h -> h.newArray(8));
            x.due(0, h -> h.shareBits(0));
            x.roots(0);
            x.due(1065353216, h -> h.shareBits(0));
            x.does(h -> h.newArray(8));
            x.due(1065353216, h -> h.shareBits(0));
            x.due(0, h -> h.shareBits(1));
            x.roots(1);
            x.due(Float.floatToIntBits(0.5f), h -> h.shareBits(1));
            // Quotients below 1 with fractions that go on, rounded to the next float.
            Pair many = x.another();
            int sum = 0;
            for (int i = 0; i < 40; i++) {
                int length = i * 7 % 9;
                int object = i;
                int size = (16 + 4 * length + 7) / 8 * 8;
                sum += size;
                int due = Float.floatToIntBits((float) size / (float) sum);
                many.does(h -> h.newArray(length), h -> h.addRoot(object, 0));
                many.due(due, h -> h.shareBits(object));
            }
        });
        book.says("Throws `IndexOutOfBoundsException` if there is no such object", x -> {
            x.refused(INDEX, h -> h.shareBits(0));
            chain(x, 3);
            noSuchObject(x, 3, (h, object) -> h.shareBits(object));
        });
    }

    private static void suspectAt(Sentences book) {
        book.in("Promise 35: suspectAt");
        book.says("Returns a leak suspect.", x -> {
            chain(x, 2);
            x.dueWithoutChange(1, h -> h.suspectAt(50, 0));
            x.dueWithoutChange(NONE, h -> h.suspectAt(50, 1));
        });
        book.says("Suspects are the reachable objects whose retained size times 100 is at least percent times the sum of the sizes of all "
                + "reachable objects, and that immediately dominate no object for which this is so.", x -> {
            // The sizes retained are 96, 72, 48 and 24 of 96: each is just at least 100, 75, 50 and 25 percent.
            chain(x, 4);
            x.does(h -> h.newArray(8));
            int[] percents = {100, 76, 75, 51, 50, 26, 25, 1};
            int[] suspects = {0, 0, 1, 1, 2, 2, 3, 3};
            for (int i = 0; i < percents.length; i++) {
                int percent = percents[i];
                int suspect = suspects[i];
                x.due(suspect, h -> h.suspectAt(percent, 0));
                x.due(NONE, h -> h.suspectAt(percent, 1));
            }
            // The object 0 as the one that is dominated.
            Pair turned = x.another();
            turned.arrays(2, 1);
            turned.refers(1, 0);
            turned.roots(1);
            turned.due(0, h -> h.suspectAt(50, 0));
            turned.due(NONE, h -> h.suspectAt(50, 1));
            turned.due(1, h -> h.suspectAt(51, 0));
            // Nothing reachable, no suspects, although 0 is at least 0.
            Pair garbage = x.another();
            garbage.arrays(2, 1);
            garbage.due(NONE, h -> h.suspectAt(1, 0));
            garbage.due(NONE, h -> h.suspectAt(100, 0));
            // 16 of 1600 bytes are just 1 percent; 16 of 1648 are less.
            Pair small = x.another();
            small.does(h -> h.newArray(0), h -> h.addRoot(0, 0));
            small.arrays(33, 8);
            for (int object = 1; object <= 33; object++) {
                small.roots(object);
            }
            small.due(0, h -> h.suspectAt(1, 33));
            small.due(NONE, h -> h.suspectAt(2, 33));
            small.does(h -> h.newArray(8), h -> h.addRoot(34, 0));
            small.due(NONE, h -> h.suspectAt(1, 34));
        });
        book.says("They are ordered by their retained sizes, the greatest first, and for equal ones by their numbers, the smallest first.", x -> {
            int[] lengths = {0, 8, 3, 8, 0, 4};
            for (int i = 0; i < lengths.length; i++) {
                int object = i;
                x.does(h -> h.newArray(lengths[object]), h -> h.addRoot(object, 0));
            }
            int[] order = {1, 3, 2, 5, 0, 4};
            for (int i = 0; i < order.length; i++) {
                int index = i;
                x.due(order[index], h -> h.suspectAt(1, index));
            }
            x.due(NONE, h -> h.suspectAt(1, 6));
        });
        book.says("`percent`: 1 to 100", x -> {
            chain(x, 2);
            x.due(1, h -> h.suspectAt(1, 0));
            x.due(0, h -> h.suspectAt(100, 0));
        });
        book.says("`index`: from 0", x -> {
            x.arrays(40, 0);
            for (int object = 0; object < 40; object++) {
                x.roots(object);
            }
            x.due(0, h -> h.suspectAt(1, 0));
            x.due(39, h -> h.suspectAt(1, 39));
            x.due(NONE, h -> h.suspectAt(1, 40));
        });
        book.says("Returns the number of the object; NONE if there is no such index.", x -> {
            x.due(NONE, h -> h.suspectAt(50, 0));
            chain(x, 2);
            x.due(1, h -> h.suspectAt(50, 0));
            for (int index : outside(0, 0)) {
                x.dueWithoutChange(NONE, h -> h.suspectAt(50, index));
            }
        });
        book.says("Throws `IllegalArgumentException` if percent is out of range", x -> {
            x.refused(ARGUMENT, h -> h.suspectAt(0, 0));
            chain(x, 2);
            for (int percent : outside(1, 100)) {
                x.refused(ARGUMENT, h -> h.suspectAt(percent, 0));
                x.refused(ARGUMENT, h -> h.suspectAt(percent, -1));
            }
        });
    }

    private static void accumulationPoint(Sentences book) {
        book.in("Promise 36: accumulationPoint");
        book.says("Finds where the retained size of an object accumulates: beginning with the object, as long as the present object "
                + "immediately dominates an object whose retained size times 100 is at least percent times that of the present object, the one "
                + "of these with the greatest retained size becomes the present object, of several the one with the smallest number.", x -> {
            // 72 of 96 are just 75 percent, 48 of 72 are between 66 and 67, 24 of 48 are just 50.
            chain(x, 4);
            int[] percents = {100, 76, 75, 67, 66, 51, 50, 1};
            int[] points = {0, 0, 1, 1, 2, 2, 3, 3};
            for (int i = 0; i < percents.length; i++) {
                int percent = percents[i];
                int point = points[i];
                x.dueWithoutChange(point, h -> h.accumulationPoint(0, percent));
            }
            // The greatest one, whatever its number; of equal ones the smallest number, whatever its slot.
            Pair y = x.another();
            y.does(h -> h.newArray(8), h -> h.newArray(0), h -> h.newArray(8), h -> h.newArray(8), h -> h.newArray(8));
            y.roots(4);
            y.refers(4, 3, 2, 0);
            y.refers(3, 1);
            y.due(1, h -> h.accumulationPoint(4, 20));
            y.due(3, h -> h.accumulationPoint(4, 30));
            y.due(4, h -> h.accumulationPoint(4, 31));
            y.does(h -> h.resizeArray(3, 0));
            y.due(0, h -> h.accumulationPoint(4, 20));
        });
        book.says("`percent`: 1 to 100", x -> {
            chain(x, 2);
            x.due(1, h -> h.accumulationPoint(0, 1));
            x.due(0, h -> h.accumulationPoint(0, 100));
        });
        book.says("Returns the present object at the end.", x -> {
            chain(x, 40);
            // From 0 to 39 each one retains at least half of what its dominator retains.
            x.due(39, h -> h.accumulationPoint(0, 50));
            x.due(39, h -> h.accumulationPoint(39, 1));
            x.due(38, h -> h.accumulationPoint(38, 51));
            x.due(0, h -> h.accumulationPoint(0, 98));
            x.due(0, h -> h.accumulationPoint(0, 100));
        });
        book.says("Throws `IndexOutOfBoundsException` if there is no such object", x -> {
            x.refused(INDEX, h -> h.accumulationPoint(0, 1));
            chain(x, 3);
            noSuchObject(x, 3, (h, object) -> h.accumulationPoint(object, 50));
            noSuchObject(x, 3, (h, object) -> h.accumulationPoint(object, 0));
        });
        book.says("Throws `IllegalArgumentException` if percent is out of range", x -> {
            chain(x, 2);
            x.does(h -> h.newArray(0));
            for (int percent : outside(1, 100)) {
                x.refused(ARGUMENT, h -> h.accumulationPoint(0, percent));
                x.refused(ARGUMENT, h -> h.accumulationPoint(2, percent));
                x.refused(INDEX, h -> h.accumulationPoint(3, percent));
            }
        });
        book.says("Throws `IllegalStateException` if the object is not reachable", x -> {
            x.arrays(3, 1);
            x.refers(0, 1);
            x.refused(STATE, h -> h.accumulationPoint(0, 1));
            x.refused(STATE, h -> h.accumulationPoint(1, 100));
            x.refused(ARGUMENT, h -> h.accumulationPoint(0, 0));
            x.refused(ARGUMENT, h -> h.accumulationPoint(0, 101));
            x.refused(INDEX, h -> h.accumulationPoint(3, 1));
            x.roots(1);
            x.due(1, h -> h.accumulationPoint(1, 100));
            x.refused(STATE, h -> h.accumulationPoint(0, 1));
        });
    }
}
