/** The sentences of FILTERS and of promises 37 to 41. */
final class TextBoundaries extends Boundaries {
    static void tell(Sentences book) {
        grammar(book);
        values(book);
        numbersAndDepth(book);
        append(book);
        clearText(book);
        matches(book);
        matchAt(book);
        matchSize(book);
    }

    /** On a browser of its own: a text that is no filter fails at this position in all calls that read it. */
    static void noFilter(Pair x, int position, String text) {
        Pair y = x.another();
        y.does(h -> h.newArray(1), h -> h.addRoot(0, 0));
        y.writes(text);
        y.dueWithoutChange(-10 - position, h -> h.matches());
        y.dueWithoutChange(-10 - position, h -> h.matchAt(0));
        y.dueWithoutChange(-10 - position, h -> h.matchSize(false));
        y.dueWithoutChange(-10 - position, h -> h.matchSize(true));
    }

    /** On a browser of its own: for how many of four arrays, of lengths 0 to 3, of which 2 is a root, a filter is true. */
    private static void filter(Pair x, long count, String text) {
        Pair y = x.another();
        y.does(h -> h.newArray(0), h -> h.newArray(1), h -> h.newArray(2), h -> h.newArray(3), h -> h.addRoot(2, 0));
        y.matches(count, text);
    }

    private static void grammar(Sentences book) {
        book.in("FILTERS");
        book.says("There is a text of at most 100 bytes, initially empty.", x -> {
            x.due(0, h -> h.clearText());
            x.due(-10, h -> h.matches());
            x.writes(times(99, "!") + "*");
            x.refused(STATE, h -> h.append('*'));
            x.due(0, h -> h.matches());
            x.due(100, h -> h.clearText());
            x.due(1, h -> h.append('*'));
        });
        book.says("As a filter it has this grammar, without spaces: filter = part { \"|\" part } part = unit { \"&\" unit } unit = \"!\" unit "
                + "| \"(\" filter \")\" | \"*\" | \"@\" digit | value relation number", x -> {
            String[] filters = {"*", "@9", "n=1|*", "n>1&*", "!*", "(*)", "!!(!(!(*)))", "(n=0|n=1)&!(*|n=3)",
                times(49, "*|") + "!*", times(48, "*&") + "n=02", times(99, "!") + "*"};
            int[] counts = {1, 0, 2, 1, 3, 1, 1, 2, 4, 1, 3};
            for (int i = 0; i < filters.length; i++) {
                filter(x, counts[i], filters[i]);
            }
            String[] atStart = {"", " *", "|*", "&*", ")", "=1", "1=n", "x"};
            for (String text : atStart) {
                noFilter(x, 0, text);
            }
            String[] atSecond = {"* ", "n =1", "! *", "( *)", "()", "*!", "**", "*)", "@", "@n", "@ 1", "n", "n1", "!", "*@1", "*n=1", "(|", "*("};
            for (String text : atSecond) {
                noFilter(x, 1, text);
            }
            String[] atThird = {"n= 1", "*| *", "*|", "*&", "(*", "n==1", "n<", "*&&*", "*||*", "*|&*", "@1@2", "@12", "n=n"};
            for (String text : atThird) {
                noFilter(x, 2, text);
            }
            noFilter(x, 3, "(*))");
            noFilter(x, 3, "(*&)");
            noFilter(x, 3, "n=1n=1");
            noFilter(x, 3, "n=1(*)");
        });
        book.says("| is or, & is and, ! is not.", x -> {
            String[] filters = {"n=0|n=1", "n=0|n=0", "n<2&n>0", "n=0&n=1", "!n=0", "!!n=0", "!!!n=0",
                "n=0|n=1&n=2", "n=1&n=2|n=3", "(n=0|n=1)&n=1", "!n=0&n<2", "!n=0|n=0", "!(n=0|n=1)", "!n=0|n=1", "n=0|n=1|n=2|n=3"};
            int[] counts = {2, 1, 1, 0, 3, 1, 3, 1, 1, 1, 1, 4, 2, 3, 4};
            for (int i = 0; i < filters.length; i++) {
                filter(x, counts[i], filters[i]);
            }
            // Not true is only what is there.
            x.matches(0, "!*");
        });
    }

    private static void values(Sentences book) {
        book.says("\"*\" is true for roots; \"@\" with a digit is true for instances of a subclass of the class with this number (false if "
                + "there is no such class).", x -> {
            GroupBoundaries.groups(x);
            x.matches(2, "*");
            x.matches(4, "@0");
            x.matches(3, "@1");
            x.matches(2, "@2");
            for (int digit = 3; digit <= 9; digit++) {
                x.matches(0, "@" + digit);
            }
            x.matches(7, "!@9");
            // Arrays and holders are no instances.
            x.matches(0, "@0&g>9");
            Pair undone = x.another();
            undone.does(h -> h.newInstance(0), h -> h.defineClass(0, 0, 0), h -> h.newInstance(1));
            undone.matches(1, "@1");
            undone.does(h -> h.undo(), h -> h.undo());
            undone.matches(0, "@1");
            Pair ten = x.another();
            for (int number = 1; number <= 9; number++) {
                ten.does(h -> h.defineClass(0, 0, 0));
            }
            ten.does(h -> h.newInstance(9), h -> h.newArray(0));
            ten.matches(1, "@9");
            ten.matches(1, "@0");
            ten.matches(0, "@8");
        });
        book.says("A value is a letter: s size; r retained size of the object alone, 0 if it is not reachable; d distance, 99 if it is not "
                + "reachable; i the number of references to it (also from objects that are not reachable); o the number of references from it; "
                + "a age; n number; g group.", x -> {
            GroupBoundaries.groups(x);
            String[] filters = {"s=16", "s=24", "s=32", "r=0", "r=112", "r=32", "r=56", "d=0", "d=1", "d=2", "d=99", "d>98"};
            int[] counts = {1, 3, 3, 2, 1, 1, 1, 2, 2, 1, 2, 2};
            for (int i = 0; i < filters.length; i++) {
                x.matches(counts[i], filters[i]);
            }
            Pair y = x.another();
            GroupBoundaries.groups(y);
            String[] others = {"i=0", "i=1", "i=2", "o=0", "o=1", "o=2", "a=0", "n=6", "n=0", "g=0", "g=1", "g=2", "g=10", "g=11"};
            int[] found = {4, 2, 1, 4, 2, 1, 7, 1, 1, 1, 1, 2, 1, 2};
            for (int i = 0; i < others.length; i++) {
                y.matches(found[i], others[i]);
            }
            Pair z = x.another();
            GroupBoundaries.groups(z);
            // 3 is not reachable and refers to 4, the holder 6 contains 0.
            z.does(h -> h.set(3, 0, 4), h -> h.set(6, 0, 0));
            z.matches(1, "i=3");
            z.matches(1, "n=0&i=0");
            z.matches(1, "n=6&o=0");
            z.does(h -> h.collect());
            z.matches(5, "a=1");
            z.matches(0, "i=3");
            for (char letter = 'a'; letter <= 'z'; letter++) {
                if ("srdioang".indexOf(letter) < 0) {
                    noFilter(x, 0, letter + "=1");
                }
            }
            noFilter(x, 0, "S=1");
        });
        book.says("A relation is <, = or >.", x -> {
            String[] filters = {"n<2", "n=2", "n>2", "n<0", "n>0", "n=0", "n>3", "n<3", "n=3", "n=4"};
            int[] counts = {2, 1, 1, 0, 3, 1, 0, 3, 1, 0};
            for (int i = 0; i < filters.length; i++) {
                filter(x, counts[i], filters[i]);
            }
            for (String sign : new String[] {"!", "#", ";", "?", "~", "n", "&", "*"}) {
                noFilter(x, 1, "n" + sign + "1");
            }
            noFilter(x, 2, "n<=1");
            noFilter(x, 2, "n=<1");
            noFilter(x, 2, "n<>1");
        });
    }

    private static void numbersAndDepth(Sentences book) {
        book.says("A number has 1 to 4 digits.", x -> {
            for (String number : new String[] {"1", "01", "001", "0001"}) {
                filter(x, 1, "n=" + number);
            }
            filter(x, 4, "n<9999");
            filter(x, 0, "n>9999");
            filter(x, 0, "n=1000");
            noFilter(x, 2, "n=");
            noFilter(x, 2, "n=|*");
            noFilter(x, 2, "n=-1");
            noFilter(x, 6, "n=00001");
            noFilter(x, 6, "n<10000");
            noFilter(x, 6, "n<99999999999999");
            noFilter(x, 3, "n=1x");
            noFilter(x, 3, "n=1.");
        });
        book.says("Parentheses are nested at most 8 deep.", x -> {
            String eight = times(8, "(") + "*" + times(8, ")");
            filter(x, 1, eight);
            filter(x, 1, eight + "&" + eight + "|" + eight);
            filter(x, 1, times(8, "(") + "*)|(*)" + times(7, ")"));
            noFilter(x, 8, times(9, "(") + "*" + times(9, ")"));
            noFilter(x, 8, times(9, "("));
            noFilter(x, 8, times(100, "("));
            noFilter(x, 8, times(8, "("));
            noFilter(x, 10, "(((((((!(!(*");
            noFilter(x, 10, times(8, "(") + "*|(*)");
            noFilter(x, 17 + 1 + 8, eight + "&" + times(9, "("));
        });
    }

    private static void append(Sentences book) {
        book.in("Promise 37: append");
        book.says("Appends a byte to the text.", x -> {
            x.arrays(3, 0);
            x.does(h -> h.append('n'), h -> h.append('<'), h -> h.append('2'));
            x.due(2, h -> h.matches());
            x.does(h -> h.append('0'));
            x.due(3, h -> h.matches());
            x.does(h -> h.append('x'));
            x.due(-14, h -> h.matches());
        });
        book.says("`value`: the byte, 0 to 127", x -> {
            x.due(1, h -> h.append(0));
            x.due(2, h -> h.append(127));
            x.due(-10, h -> h.matches());
            x.due(-10, h -> h.execute());
            x.writes("*" + (char) 127);
            x.due(-11, h -> h.matches());
            // Each byte that begins no filter fails at 0, each one that begins one at the end, 1; the star stands alone.
            Pair y = x.another();
            for (int i = 0; i <= 127; i++) {
                int value = i;
                boolean begins = "!(@srdioang".indexOf(value) >= 0;
                y.does(h -> h.clearText());
                y.due(1, h -> h.append(value));
                y.due(value == '*' ? 0 : begins ? -11 : -10, h -> h.matches());
            }
        });
        book.says("Returns the length of the text afterwards.", x -> {
            for (int i = 1; i <= 100; i++) {
                int length = i;
                x.due(length, h -> h.append('!'));
            }
            x.does(h -> h.clearText());
            x.due(1, h -> h.append('!'));
        });
        book.says("Throws `IllegalArgumentException` if value is out of range", x -> {
            x.writes("*");
            for (int value : outside(0, 127)) {
                x.refused(ARGUMENT, h -> h.append(value));
            }
            // As a byte or without its upper bits it would be a star.
            x.refused(ARGUMENT, h -> h.append('*' + 128));
            x.refused(ARGUMENT, h -> h.append('*' - 256));
            x.due(1, h -> h.clearText());
        });
        book.says("Throws `IllegalStateException` if the text has 100 bytes", x -> {
            x.writes(times(99, "!"));
            x.due(100, h -> h.append('*'));
            x.refused(STATE, h -> h.append('*'));
            x.refused(STATE, h -> h.append(0));
            x.refused(ARGUMENT, h -> h.append(128));
            x.refused(ARGUMENT, h -> h.append(-1));
            x.due(0, h -> h.matches());
            x.due(100, h -> h.clearText());
            x.due(1, h -> h.append('*'));
        });
    }

    private static void clearText(Sentences book) {
        book.in("Promise 38: clearText");
        book.says("Empties the text.", x -> {
            x.writes("*|x");
            x.does(h -> h.clearText());
            x.due(-10, h -> h.matches());
            x.due(0, h -> h.execute());
            x.does(h -> h.append('*'));
            x.due(0, h -> h.matches());
        });
        book.says("Returns the length that it had.", x -> {
            x.due(0, h -> h.clearText());
            x.does(h -> h.append(0));
            x.due(1, h -> h.clearText());
            x.due(0, h -> h.clearText());
            x.writes(times(100, "x"));
            x.due(100, h -> h.clearText());
            x.due(0, h -> h.clearText());
        });
    }

    private static void matches(Sentences book) {
        book.in("Promise 39: matches");
        book.says("Counts the objects for which the text, as a filter, is true.", x -> {
            x.matches(0, "n<40");
            x.does(h -> h.newArray(0));
            x.matches(1, "n<40");
            x.does(h -> h.populate(0, 39));
            x.matches(40, "n<40");
            x.matches(1, "n=39");
            x.matches(0, "n=40");
            x.matches(40, "!n>39");
            // The text stays, and the heap may change under it.
            Pair y = x.another();
            y.arrays(2, 0);
            y.writes("*");
            y.due(0, h -> h.matches());
            y.roots(1);
            y.due(1, h -> h.matches());
            y.does(h -> h.removeRoot(1, 0));
            y.due(0, h -> h.matches());
        });
        book.says("Returns the number of objects; -10 minus the syntax error position if there is a syntax error.", x -> {
            noFilter(x, 0, "");
            noFilter(x, 0, "x");
            noFilter(x, 1, "n");
            noFilter(x, 98, times(98, "!") + "x*");
            noFilter(x, 99, times(98, "!") + "*x");
            noFilter(x, 100, times(100, "!"));
            noFilter(x, 100, times(97, "!") + "(n=");
            // The syntax counts, also where there is nothing to look at.
            x.matches(-12, "*|");
            x.matches(0, "*");
        });
    }

    private static void matchAt(Sentences book) {
        book.in("Promise 40: matchAt");
        book.says("Returns one of the objects for which the text, as a filter, is true, in ascending order of their numbers.", x -> {
            x.arrays(6, 0);
            x.writes("n=5|n=2|n=0|n=4");
            int[] due = {0, 2, 4, 5};
            for (int i = 0; i < 4; i++) {
                int index = i;
                x.dueWithoutChange(due[index], h -> h.matchAt(index));
            }
        });
        book.says("`index`: from 0", x -> {
            x.arrays(40, 0);
            x.writes("n<40");
            x.due(0, h -> h.matchAt(0));
            x.due(39, h -> h.matchAt(39));
        });
        book.says("Returns the number of the object; NONE if there is no such index; -10 minus the syntax error position if there is a syntax "
                + "error.", x -> {
            x.arrays(40, 0);
            x.writes("n>37");
            x.due(38, h -> h.matchAt(0));
            x.due(39, h -> h.matchAt(1));
            for (int index : outside(0, 1)) {
                x.dueWithoutChange(NONE, h -> h.matchAt(index));
            }
            x.writes("n>39");
            x.due(NONE, h -> h.matchAt(0));
            x.writes("n>");
            x.dueWithoutChange(-12, h -> h.matchAt(0));
            x.dueWithoutChange(-12, h -> h.matchAt(39));
            x.does(h -> h.clearText());
            x.dueWithoutChange(-10, h -> h.matchAt(0));
            Pair empty = x.another();
            empty.writes("!*");
            empty.due(NONE, h -> h.matchAt(0));
        });
    }

    private static void matchSize(Sentences book) {
        book.in("Promise 41: matchSize");
        book.says("Returns the size of the objects for which the text, as a filter, is true.", x -> {
            GroupBoundaries.groups(x);
            x.writes("g=2");
            x.dueWithoutChange(64, h -> h.matchSize(false));
            x.dueWithoutChange(32, h -> h.matchSize(true));
        });
        book.says("`retained`: true for the retained size of all of them as a set, false for the sum of their sizes", x -> {
            GroupBoundaries.groups(x);
            String[] filters = {"n<40", "n>39", "n=0", "n=1", "n=2|n=4", "n=1|n=6", "!*"};
            int[] sums = {184, 0, 16, 24, 64, 48, 136};
            int[] retained = {136, 0, 0, 112, 88, 136, 88};
            for (int i = 0; i < filters.length; i++) {
                int sum = sums[i];
                int size = retained[i];
                x.writes(filters[i]);
                x.dueWithoutChange(sum, h -> h.matchSize(false));
                x.dueWithoutChange(size, h -> h.matchSize(true));
            }
        });
        book.says("Returns the size; -10 minus the syntax error position if there is a syntax error.", x -> {
            x.dueWithoutChange(-10, h -> h.matchSize(false));
            x.dueWithoutChange(-10, h -> h.matchSize(true));
            x.writes("n<40");
            x.due(0, h -> h.matchSize(false));
            x.due(0, h -> h.matchSize(true));
            x.writes("n<400000");
            x.dueWithoutChange(-16, h -> h.matchSize(false));
            x.dueWithoutChange(-16, h -> h.matchSize(true));
            noFilter(x, 100, times(100, "!"));
        });
    }
}
