/** The sentences of COMMANDS and of promise 42. */
final class CommandBoundaries extends Boundaries {
    static void tell(Sentences book) {
        syntax(book);
        errorPosition(book);
        execute(book);
        answers(book);
    }

    /** On a browser of its own: a text that is no sequence of commands fails at this position, and nothing is executed. */
    private static void noCommands(Pair x, int position, String text) {
        Pair y = x.another();
        y.does(h -> h.newArray(1), h -> h.addRoot(0, 0), h -> h.take(0));
        y.failsToExecute(-10 - position, text);
    }

    /** On a browser of its own, with an array of length 1 that is a root, and a holder: how many commands are executed. */
    private static Pair commands(Pair x, int count, String text) {
        Pair y = x.another();
        y.does(h -> h.newArray(1), h -> h.addRoot(0, 0), h -> h.newHolder());
        y.executes(count, text);
        return y;
    }

    /** Like commands(), for a text of which a command would throw an exception. */
    private static void refusedCommand(Pair x, int index, String text) {
        Pair y = x.another();
        y.does(h -> h.newArray(1), h -> h.addRoot(0, 0), h -> h.newHolder(), h -> h.take(1));
        y.failsToExecute(-1000 - index, text);
    }

    private static void syntax(Sentences book) {
        book.in("COMMANDS");
        book.says("As commands the text is a sequence of commands, perhaps empty, without spaces: \"n\", a digit, \";\" like newInstance(); "
                + "\"a\", a digit, \";\" like newArray(); \"w;\" like newHolder(); \"s\", an object, \",\", a slot, \",\", a target or \"-\" "
                + "for none, \";\" like set(); \"+\", an object, \",\", a kind, \";\" like addRoot(); \"-\", an object, \",\", a kind, \";\" "
                + "like removeRoot(); \"c;\" like collect().", x -> {
            commands(x, 0, "");
            commands(x, 1, "n0;").due(0, h -> h.objectInfo(2, 0));
            Pair arrays = commands(x, 2, "a0;a8;");
            arrays.due(0, h -> h.objectInfo(2, 4));
            arrays.due(8, h -> h.objectInfo(3, 4));
            commands(x, 1, "w;").due(11, h -> h.objectInfo(2, 0));
            commands(x, 1, "s0,0,1;").due(1, h -> h.get(0, 0));
            commands(x, 2, "s0,0,1;s0,0,-;").due(NONE, h -> h.get(0, 0));
            commands(x, 2, "+0,2;+1,1;").due(5, h -> h.objectInfo(0, 5));
            commands(x, 1, "-0,0;").due(0, h -> h.objectInfo(0, 5));
            Pair collected = commands(x, 1, "c;");
            collected.due(1, h -> h.objects());
            collected.due(1, h -> h.objectInfo(0, 3));
            Pair classes = x.another();
            for (int number = 1; number <= 9; number++) {
                classes.does(h -> h.defineClass(0, 0, 0));
            }
            classes.executes(1, "n9;");
            classes.due(9, h -> h.objectInfo(0, 0));
            for (String text : new String[] {" ", " w;", ";", "x;", "0;", "N0;", ",", "*", "(w;)"}) {
                noCommands(x, 0, text);
            }
            for (String text : new String[] {"n;", "n ", "nn0;", "a;", "a-", "w ", "w0;", "c ", "c0;", "s;", "s,", "s-", "+;", "++", "-;", "--", "- 0,0;"}) {
                noCommands(x, 1, text);
            }
            for (String text : new String[] {"w; ", "w; w;", "c;;", "n0,", "n0 ;", "a1,", "s0;", "s0-", "+0;", "-0;", "s0 ,"}) {
                noCommands(x, 2, text);
            }
            for (String text : new String[] {"s0,;", "s0,-", "+0,;", "+0,-", "-0,-", "-0,,", "s0, 0"}) {
                noCommands(x, 3, text);
            }
            noCommands(x, 4, "s0,0;");
            noCommands(x, 4, "+0,0,");
            noCommands(x, 4, "-0,0-");
            noCommands(x, 5, "s0,0,;");
            noCommands(x, 5, "s0,0,+");
            noCommands(x, 6, "s0,0,--");
            noCommands(x, 6, "s0,0,-1;");
            noCommands(x, 6, "s0,0,0,");
        });
        book.says("Objects, slots, targets and kinds are numbers of 1 or 2 digits.", x -> {
            commands(x, 1, "s0,0,1;").due(1, h -> h.get(0, 0));
            commands(x, 1, "s00,00,01;").due(1, h -> h.get(0, 0));
            commands(x, 2, "+00,02;-0,02;").due(1, h -> h.objectInfo(0, 5));
            Pair full = x.another();
            full.arrays(40, 1);
            full.executes(3, "s39,0,39;+39,0;+38,00;");
            full.due(39, h -> h.get(39, 0));
            full.due(1, h -> h.objectInfo(38, 5));
            // Numbers of two digits that nothing has: no error of the syntax.
            for (String text : new String[] {"s99,0,-;", "s0,99,-;", "s0,0,99;", "+99,0;", "+0,99;", "-99,0;", "-0,99;", "s40,0,0;"}) {
                refusedCommand(x, 0, text);
            }
            noCommands(x, 3, "s000,0,0;");
            noCommands(x, 5, "s0,000,0;");
            noCommands(x, 7, "s0,0,001;");
            noCommands(x, 3, "+000,0;");
            noCommands(x, 5, "+0,000;");
            noCommands(x, 3, "-100,0;");
            noCommands(x, 5, "-0,000;");
            noCommands(x, 2, "n00;");
            noCommands(x, 2, "a00;");
        });
    }

    private static void errorPosition(Sentences book) {
        book.says("The syntax error position of a text is the index of the first byte that cannot stand where it stands (also of a parenthesis "
                + "inside 8 others, and of a digit too many), or the length of the text if it ends too early.", x -> {
            // The first byte, not a later one; what stands behind it does not matter.
            TextBoundaries.noFilter(x, 1, "*x))))");
            TextBoundaries.noFilter(x, 2, "(*x(((");
            TextBoundaries.noFilter(x, 8, times(9, "(") + "x");
            TextBoundaries.noFilter(x, 6, "s>12345&x");
            TextBoundaries.noFilter(x, 2, "@12x");
            TextBoundaries.noFilter(x, 0, "" + (char) 0);
            TextBoundaries.noFilter(x, 1, "*" + (char) 127);
            for (String text : new String[] {"", "!", "(", "@", "n", "n=", "*&", "*|", "(*", "((*)", "n=1&", "!(n<3|"}) {
                TextBoundaries.noFilter(x, text.length(), text);
            }
            noCommands(x, 1, "nx;;;");
            noCommands(x, 2, "n01;");
            noCommands(x, 2, "w;x;w;");
            noCommands(x, 0, "" + (char) 0);
            noCommands(x, 2, "c;" + (char) 127);
            for (String text : new String[] {"n", "n0", "a", "a1", "w", "s", "s0", "s00", "s0,", "s0,0", "s0,0,", "s0,0,-", "s0,0,1", "s0,0,11",
                "+", "+0", "+0,", "+0,0", "-", "-0", "-0,", "-0,0", "c", "w;c", "w;w;s1,"}) {
                noCommands(x, text.length(), text);
            }
            noCommands(x, 99, times(49, "c;") + "cc");
            noCommands(x, 100, times(49, "c;") + "s0");
            noCommands(x, 98, times(49, "c;") + "x;");
            // A command that would throw does not count where the syntax fails behind it.
            noCommands(x, 3, "a9;x");
        });
    }

    private static void execute(Sentences book) {
        book.in("Promise 42: execute");
        book.says("Executes the text as commands, one after the other, each one like the method.", x -> {
            commands(x, 2, "w;c;").due(1, h -> h.objects());
            commands(x, 2, "c;w;").due(2, h -> h.objects());
            // Each command sees what the ones before it did: numbers, serial numbers, slots, roots.
            Pair y = commands(x, 6, "c;a2;s1,1,0;+1,2;-0,0;c;");
            y.due(2, h -> h.objects());
            y.due(0, h -> h.get(1, 1));
            y.due(3, h -> h.objectInfo(1, 1));
            y.due(1, h -> h.distance(0));
            y.due(2, h -> h.objectInfo(0, 3));
            y.due(1, h -> h.objectInfo(1, 3));
        });
        book.says("If one of them would throw an exception, nothing changes at all.", x -> {
            String[] refused = {"n1;", "n9;", "a9;", "s2,0,0;", "s0,1,0;", "s1,1,0;", "s0,0,2;", "+2,0;", "+0,3;", "-2,0;", "-0,3;", "-0,1;", "-1,0;"};
            for (String command : refused) {
                refusedCommand(x, 0, command);
                refusedCommand(x, 4, "s0,0,1;+1,1;-1,1;+0,2;" + command);
                refusedCommand(x, 1, "s0,0,1;" + command + "w;c;");
            }
            refusedCommand(x, 2, "c;w;+2,0;");
            refusedCommand(x, 2, "-0,0;c;+0,0;");
            // A heap that becomes full: 38 objects more are accepted.
            refusedCommand(x, 38, times(39, "w;"));
            refusedCommand(x, 38, times(38, "w;") + "n0;");
            refusedCommand(x, 38, times(38, "w;") + "a0;");
            commands(x, 38, times(38, "w;")).due(40, h -> h.objects());
        });
        book.says("The text stays.", x -> {
            x.executes(2, "w;w;");
            x.due(2, h -> h.execute());
            x.due(4, h -> h.objects());
            x.due(4, h -> h.clearText());
            x.executes(-1001, "w;n1;");
            x.due(-1001, h -> h.execute());
            x.does(h -> h.defineClass(0, 0, 0));
            x.due(2, h -> h.execute());
            x.due(5, h -> h.clearText());
            x.executes(-13, "w;w");
            x.does(h -> h.append(';'));
            x.due(2, h -> h.execute());
        });
        book.says("Undoable if all commands are executed (one saved state for all of them).", x -> {
            x.executes(4, "w;a1;s1,0,0;+1,0;");
            x.due(0, h -> h.undo());
            x.due(0, h -> h.objects());
            x.due(0, h -> h.newHolder());
            x.due(1, h -> h.objectInfo(0, 1));
            // Also if there is no command at all, or nothing changes.
            x.executes(0, "");
            x.due(1, h -> h.undo());
            x.executes(1, "s0,0,-;");
            x.due(1, h -> h.undo());
            x.due(1, h -> h.objects());
            // With 5 saved states a refused execution drops none of them, an accepted one drops the oldest.
            Pair y = x.another();
            y.arrays(6, 0);
            y.failsToExecute(-1001, "w;n1;");
            y.failsToExecute(-13, "w;w");
            y.due(4, h -> h.undo());
            y.due(5, h -> h.objects());
            Pair z = x.another();
            z.arrays(6, 0);
            z.executes(2, "w;w;");
            z.does(h -> h.undo());
            z.due(6, h -> h.objects());
            z.does(h -> h.undo(), h -> h.undo(), h -> h.undo());
            z.due(0, h -> h.undo());
            z.due(2, h -> h.objects());
        });
    }

    private static void answers(Sentences book) {
        book.says("Returns the number of commands; -10 minus the syntax error position if there is a syntax error; -1000 minus the index of the "
                + "first command (from 0) that would throw an exception.", x -> {
            commands(x, 0, "");
            commands(x, 1, "c;");
            commands(x, 50, times(50, "c;"));
            commands(x, 12, times(12, "s0,0,-;"));
            noCommands(x, 0, "x");
            noCommands(x, 100, times(49, "c;") + "n0");
            refusedCommand(x, 0, "n1;");
            refusedCommand(x, 1, "w;n1;n1;");
            // The last of 50 commands is the first one that would throw: all 40 objects are roots and stay.
            Pair full = x.another();
            full.arrays(40, 0);
            for (int object = 0; object < 40; object++) {
                full.roots(object);
            }
            full.failsToExecute(-1049, times(49, "c;") + "w;");
            full.due(0, h -> h.objectInfo(39, 3));
        });
    }
}
