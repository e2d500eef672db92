/**
 * Writes every short text over some signs, and some behind a beginning, and looks whether its syntax error position, as
 * a filter and as commands, is the document's. What is due comes from tables of what may stand behind what, made without
 * a look at how the program reads.
 */
public final class ShortTextTests {
    private static final int FINE = -1;
    // D is a digit, N a number of one or two digits, T a target.
    private static final String[] COMMANDS = {"nD;", "aD;", "w;", "sN,N,T;", "+N,N;", "-N,N;", "c;"};

    private static int wrong = 0;
    private static int texts = 0;
    private static HeapBrowser x = new HeapBrowser();
    private static int calls = 0;

    private enum After { NOTHING, VALUE, RELATION, DIGIT, UNIT, AT }

    private static void due(int got, int want, String what) {
        texts++;
        if (got != want) {
            wrong++;
            if (wrong <= 20) {
                System.out.println(what + " answered " + got + ", due is " + want);
            }
        }
    }

    public static void main(String[] args) {
        filters("", "sg<=12()!&|*@n\0", 5);
        filters("(((((((", "s=1(*)!&|", 5);
        filters("((((((((s<1", "123)&|(", 6);
        commands("", "nawsc+-0;,1", 5);
        commands("s0,0,", "0123;-,s", 5);
        commands("c;n1;", "+-c;,09x", 5);
        System.out.println(wrong == 0 ? "all " + texts + " texts are read as due" : wrong + " texts are not read as due");
        if (wrong != 0) {
            System.exit(1);
        }
    }

    private static void filters(String text, String signs, int more) {
        int got = written(text).matches();
        int error = errorOfFilter(text);
        // Which objects match is the matter of other tests: here all counts are alike.
        due(Math.min(got, 0), error == FINE ? 0 : -10 - error, "matches() of " + text);
        for (int i = 0; i < signs.length() && more > 0; i++) {
            filters(text + signs.charAt(i), signs, more - 1);
        }
    }

    private static void commands(String text, String signs, int more) {
        int got = written(text).execute();
        boolean read = got >= 0 || got <= -1000;
        int error = errorOfCommands(text);
        due(read ? 0 : got, error == FINE ? 0 : -10 - error, "execute() of " + text);
        for (int i = 0; i < signs.length() && more > 0; i++) {
            commands(text + signs.charAt(i), signs, more - 1);
        }
    }

    /** A browser with the text; the same one as before as long as the call that follows is within its 512 calls. */
    private static HeapBrowser written(String text) {
        int more = text.length() + 2;
        if (calls + more > 512) {
            x = new HeapBrowser();
            calls = 0;
        }
        calls += more;
        x.clearText();
        for (int i = 0; i < text.length(); i++) {
            x.append(text.charAt(i));
        }
        return x;
    }

    private static boolean digit(char sign) {
        return sign >= '0' && sign <= '9';
    }

    private static int errorOfFilter(String text) {
        After after = After.NOTHING;
        int open = 0;
        int digits = 0;
        for (int i = 0; i < text.length(); i++) {
            char sign = text.charAt(i);
            after = following(after, sign, open, digits);
            if (after == null) {
                return i;
            }
            open += sign == '(' ? 1 : sign == ')' ? -1 : 0;
            digits = after == After.DIGIT ? digits + 1 : 0;
        }
        boolean whole = open == 0 && (after == After.DIGIT || after == After.UNIT);
        return whole ? FINE : text.length();
    }

    /** What a sign is behind another one; null if it cannot stand there. */
    private static After following(After after, char sign, int open, int digits) {
        switch (after) {
            case NOTHING:
                return beginning(sign, open);
            case VALUE:
                return sign == '<' || sign == '=' || sign == '>' ? After.RELATION : null;
            case RELATION:
                return digit(sign) ? After.DIGIT : null;
            case AT:
                return digit(sign) ? After.UNIT : null;
            default:
                if (after == After.DIGIT && digit(sign) && digits < 4) {
                    return After.DIGIT;
                }
                if (sign == ')' && open > 0) {
                    return After.UNIT;
                }
                return sign == '&' || sign == '|' ? After.NOTHING : null;
        }
    }

    private static After beginning(char sign, int open) {
        if (sign == '!' || sign == '(' && open < 8) {
            return After.NOTHING;
        }
        if (sign == '*') {
            return After.UNIT;
        }
        if (sign == '@') {
            return After.AT;
        }
        return "srdioang".indexOf(sign) >= 0 ? After.VALUE : null;
    }

    private static int errorOfCommands(String text) {
        int at = 0;
        while (at < text.length()) {
            String form = formOf(text.charAt(at));
            if (form.isEmpty()) {
                return at;
            }
            for (int part = 0; part < form.length(); part++) {
                int length = lengthOf(form.charAt(part), text, at);
                if (length == 0) {
                    return at;
                }
                at += length;
            }
        }
        return FINE;
    }

    private static String formOf(char sign) {
        for (String form : COMMANDS) {
            if (form.charAt(0) == sign) {
                return form;
            }
        }
        return "";
    }

    /** How many signs of the text a part of a command takes; 0 if it does not stand there. */
    private static int lengthOf(char part, String text, int at) {
        char sign = at < text.length() ? text.charAt(at) : ' ';
        boolean two = at + 1 < text.length() && digit(text.charAt(at + 1));
        switch (part) {
            case 'D':
                return digit(sign) ? 1 : 0;
            case 'N':
                return !digit(sign) ? 0 : two ? 2 : 1;
            case 'T':
                return sign == '-' ? 1 : lengthOf('N', text, at);
            default:
                return sign == part ? 1 : 0;
        }
    }
}
