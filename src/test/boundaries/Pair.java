import java.util.ArrayList;
import java.util.List;

/**
 * Two browsers that get the same calls, but for the refused ones: these go to the first alone. Had one of them changed
 * something, the two would answer later calls differently, which is looked at after each of them and at the end.
 */
final class Pair {
    private static final int MOST_CALLS = 512;

    interface Call {
        long on(HeapBrowser h);
    }

    interface Question {
        boolean on(HeapBrowser h);
    }

    interface OnNumber {
        long on(HeapBrowser h, int number);
    }

    private final HeapBrowser one = new HeapBrowser();
    private final HeapBrowser twin = new HeapBrowser();
    private final List<Pair> all;
    private final List<String> faults;
    private int calls = 0;

    Pair() {
        this(new ArrayList<>(), new ArrayList<>());
    }

    private Pair(List<Pair> all, List<String> faults) {
        this.all = all;
        this.faults = faults;
        all.add(this);
    }

    /** Another new pair for the same test. */
    Pair another() {
        return new Pair(all, faults);
    }

    List<String> faults() {
        return faults;
    }

    private static String outcome(HeapBrowser h, Call call) {
        try {
            return String.valueOf(call.on(h));
        } catch (RuntimeException e) {
            return "throws " + e.getClass().getName();
        }
    }

    private void fault(String text) {
        StackTraceElement place = null;
        for (StackTraceElement element : new Throwable().getStackTrace()) {
            String name = element.getClassName();
            if (place == null && !name.equals("Pair") && !name.equals("Boundaries")) {
                place = element;
            }
        }
        faults.add(text + " (" + place + ")");
    }

    private void count() {
        calls++;
        if (calls == MOST_CALLS + 1) {
            fault("the test makes more than 512 calls on one object, of which nothing is promised");
        }
    }

    /** Makes a call on both, and answers what it answered. */
    private String both(Call call) {
        count();
        String got = outcome(one, call);
        String other = outcome(twin, call);
        if (!got.equals(other)) {
            fault("answered " + got + " after a refused call, " + other + " without it");
        }
        return other;
    }

    private void both(String want, Call call) {
        String got = both(call);
        if (!got.equals(want)) {
            fault("answered " + got + ", due is " + want);
        }
    }

    void due(long want, Call call) {
        both(String.valueOf(want), call);
    }

    void yes(Question question) {
        both("1", h -> question.on(h) ? 1 : 0);
    }

    void no(Question question) {
        both("0", h -> question.on(h) ? 1 : 0);
    }

    /** Makes calls whose answers other tests look at; they must be accepted. */
    void does(Call... some) {
        for (Call call : some) {
            String got = both(call);
            if (got.startsWith("throws")) {
                fault(got);
            }
        }
    }

    private void onFirstAlone(String want, Call call) {
        count();
        String got = outcome(one, call);
        if (!got.equals(want)) {
            fault("answered " + got + ", due is " + want);
        }
        both(h -> h.digest());
    }

    /** The very class is looked at: what the machine throws is often a class below. */
    void refused(Class<?> want, Call call) {
        onFirstAlone("throws " + want.getName(), call);
    }

    /** A call that answers an error of the text and changes nothing, like a refused one. */
    void fails(long want, Call call) {
        onFirstAlone(String.valueOf(want), call);
    }

    /** A call that changes nothing at all, not even what is saved for undo. */
    void dueWithoutChange(long want, Call call) {
        onFirstAlone(String.valueOf(want), call);
    }

    /** What a call answers that is not known beforehand. */
    long answer(Call call) {
        return Long.parseLong(both(call));
    }

    void arrays(int count, int length) {
        for (int made = 0; made < count; made++) {
            does(h -> h.newArray(length));
        }
    }

    void roots(int... objects) {
        for (int object : objects) {
            does(h -> h.addRoot(object, 0));
        }
    }

    /** Gives an object, from slot 0 on, these targets. */
    void refers(int object, int... targets) {
        for (int slot = 0; slot < targets.length; slot++) {
            int place = slot;
            int target = targets[slot];
            does(h -> h.set(object, place, target));
        }
    }

    void writes(String text) {
        does(h -> h.clearText());
        for (char sign : text.toCharArray()) {
            does(h -> h.append(sign));
        }
    }

    void matches(long want, String filter) {
        writes(filter);
        dueWithoutChange(want, h -> h.matches());
    }

    void executes(long want, String commands) {
        writes(commands);
        due(want, h -> h.execute());
    }

    /** Commands that are not executed. */
    void failsToExecute(long want, String commands) {
        writes(commands);
        fails(want, h -> h.execute());
    }

    /** Asks all pairs of a test for what a refused call could have changed although the digest does not tell it. */
    void end() {
        for (Pair pair : new ArrayList<>(all)) {
            pair.askPictures();
            pair.askText();
            pair.askSerial();
            pair.askSavedStates();
            pair.askPictures();
        }
    }

    private void askPictures() {
        for (int number = 0; number < 2; number++) {
            int picture = number;
            for (int asked = 0; asked < 4; asked++) {
                int what = asked;
                both(h -> h.compare(picture, what));
            }
            both(h -> h.growth(picture, 0));
            both(h -> h.growth(picture, 11));
        }
    }

    private void askText() {
        both(h -> h.matches());
        both(h -> h.matchSize(true));
        both(h -> h.execute());
        both(h -> h.digest());
    }

    private void askSerial() {
        String made = both(h -> h.newHolder());
        if (!made.startsWith("throws")) {
            int holder = Integer.parseInt(made);
            both(h -> h.objectInfo(holder, 1));
        }
    }

    private void askSavedStates() {
        for (int step = 0; step < 6; step++) {
            both(h -> h.undo());
            both(h -> h.digest());
        }
    }
}
