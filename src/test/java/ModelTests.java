import java.util.ArrayList;
import java.util.Arrays;
import java.util.List;
import java.util.Random;
import java.util.Set;
import java.util.TreeMap;
import java.util.TreeSet;
import java.util.function.Predicate;
import java.util.regex.Matcher;
import java.util.regex.Pattern;

/**
 * Makes random calls on a browser and on a model of it that follows the document's definitions word by word (paths,
 * removal of objects, prefixes of texts), and compares every answer, every exception and the digest.
 */
public final class ModelTests {
    private static final int RUNS = 400;
    private static final int CALLS = 512;
    private static int wrong = 0;

    public static void main(String[] args) {
        long seed = args.length > 0 ? Long.parseLong(args[0]) : 20261118L;
        for (int run = 0; run < RUNS && wrong < 20; run++) {
            new Run(run, new Random(seed * 7919 + run)).play();
        }
        System.out.println(wrong == 0 ? "all answers are as in the model" : wrong + " answers are not as in the model");
        if (wrong != 0) {
            System.exit(1);
        }
    }

    interface Call {
        long answer();
    }

    /** One run of calls on a new browser and a new model. */
    static final class Run {
        final int number;
        final Random random;
        final HeapBrowser browser = new HeapBrowser();
        final Model model = new Model();
        final int style;
        int calls = 0;

        Run(int number, Random random) {
            this.number = number;
            this.random = random;
            this.style = random.nextInt(4);
        }

        void play() {
            int before = wrong;
            while (calls < CALLS && wrong == before) {
                step();
            }
        }

        void both(String name, Call real, Call due) {
            calls++;
            String got = outcome(real);
            String want = outcome(due);
            if (!got.equals(want)) {
                wrong++;
                System.out.println("run " + number + ", call " + calls + ": " + name + " answered " + got + ", due is " + want);
            }
        }

        static String outcome(Call call) {
            try {
                return String.valueOf(call.answer());
            } catch (RuntimeException e) {
                return "throws " + e.getClass().getName();
            }
        }

        int number(int most) {
            return random.nextInt(40) == 0 ? wild() : random.nextInt(most + 1);
        }

        int wild() {
            int[] numbers = {-1, -2, 3, 8, 9, 10, 11, 12, 39, 40, 41, 64, 99, 100, 127, 128, Integer.MAX_VALUE, Integer.MIN_VALUE};
            return numbers[random.nextInt(numbers.length)];
        }

        int object() {
            if (random.nextInt(40) == 0) {
                return wild();
            }
            List<Integer> there = new ArrayList<>(model.state.objects.keySet());
            return there.isEmpty() ? random.nextInt(3) : there.get(random.nextInt(there.size()));
        }

        int slotOf(int object) {
            Thing thing = model.state.objects.get(object);
            int count = thing == null ? 0 : thing.slots.size();
            return random.nextInt(20) == 0 ? wild() : random.nextInt(Math.max(count, 1));
        }

        void step() {
            int kind = random.nextInt(100);
            if (kind < 40) {
                change();
            } else if (kind < 85) {
                ask();
            } else {
                text();
            }
            if (random.nextInt(3) == 0) {
                both("digest()", browser::digest, model::digest);
            }
        }

        void change() {
            int choice = random.nextInt(style == 0 ? 11 : 22);
            switch (choice) {
                case 0: {
                    int a = number(model.state.classes.size() - 1), b = number(3), c = number(40);
                    both("defineClass(" + a + ", " + b + ", " + c + ")", () -> browser.defineClass(a, b, c), () -> model.defineClass(a, b, c));
                    break;
                }
                case 1: {
                    int a = number(model.state.classes.size() - 1);
                    both("newInstance(" + a + ")", () -> browser.newInstance(a), () -> model.newInstance(a));
                    break;
                }
                case 2: {
                    int a = number(8);
                    both("newArray(" + a + ")", () -> browser.newArray(a), () -> model.newArray(a));
                    break;
                }
                case 3:
                    both("newHolder()", browser::newHolder, model::newHolder);
                    break;
                case 4: {
                    int a = object(), b = number(8);
                    both("resizeArray(" + a + ", " + b + ")", () -> browser.resizeArray(a, b), () -> model.resizeArray(a, b));
                    break;
                }
                case 5: {
                    int a = object(), b = number(2);
                    both("removeRoot(" + a + ", " + b + ")", () -> browser.removeRoot(a, b), () -> model.removeRoot(a, b));
                    break;
                }
                case 6:
                case 11: {
                    int a = object(), b = number(2);
                    both("addRoot(" + a + ", " + b + ")", () -> browser.addRoot(a, b), () -> model.addRoot(a, b));
                    break;
                }
                case 7:
                    if (random.nextInt(4) == 0) {
                        int times = random.nextInt(20) == 0 ? 110 : 1;
                        for (int i = 0; i < times; i++) {
                            both("collect()", browser::collect, model::collect);
                        }
                    }
                    break;
                case 8:
                    if (random.nextInt(3) == 0) {
                        int a = random.nextInt(5) == 0 ? wild() : random.nextInt(Integer.MAX_VALUE);
                        int b = random.nextInt(5) == 0 ? number(40) : 1 + random.nextInt(style == 3 ? 30 : 8);
                        both("populate(" + a + ", " + b + ")", () -> browser.populate(a, b), () -> model.populate(a, b));
                    }
                    break;
                case 9:
                    if (random.nextInt(2) == 0) {
                        both("undo()", browser::undo, model::undo);
                    }
                    break;
                case 10: {
                    int a = number(1);
                    if (random.nextInt(3) == 0) {
                        both("take(" + a + ")", () -> browser.take(a), () -> model.take(a));
                    }
                    break;
                }
                default: {
                    int a = object(), b = slotOf(a), c = random.nextInt(6) == 0 ? -1 : object();
                    both("set(" + a + ", " + b + ", " + c + ")", () -> browser.set(a, b, c), () -> model.set(a, b, c));
                    break;
                }
            }
        }

        void ask() {
            int a = object();
            int b = object();
            switch (random.nextInt(28)) {
                case 0: both("classes()", browser::classes, () -> model.state.classes.size()); break;
                case 1: {
                    int c = number(model.state.classes.size()), w = number(3);
                    both("classInfo(" + c + ", " + w + ")", () -> browser.classInfo(c, w), () -> model.classInfo(c, w));
                    break;
                }
                case 2: {
                    int c = number(model.state.classes.size()), d = number(model.state.classes.size());
                    both("isSubclass(" + c + ", " + d + ")", () -> browser.isSubclass(c, d) ? 1 : 0, () -> model.isSubclass(c, d) ? 1 : 0);
                    break;
                }
                case 3: {
                    int s = slotOf(a);
                    both("get(" + a + ", " + s + ")", () -> browser.get(a, s), () -> model.get(a, s));
                    break;
                }
                case 4: both("referent(" + a + ")", () -> browser.referent(a), () -> model.referent(a)); break;
                case 5: both("objects()", browser::objects, () -> model.state.objects.size()); break;
                case 6: both("exists(" + a + ")", () -> browser.exists(a) ? 1 : 0, () -> model.state.objects.containsKey(a) ? 1 : 0); break;
                case 7: {
                    int w = number(7);
                    both("objectInfo(" + a + ", " + w + ")", () -> browser.objectInfo(a, w), () -> model.objectInfo(a, w));
                    break;
                }
                case 8: both("distance(" + a + ")", () -> browser.distance(a), () -> model.distance(a)); break;
                case 9: {
                    for (int i = -1; i < 6; i++) {
                        int index = i;
                        both("pathAt(" + a + ", " + i + ")", () -> browser.pathAt(a, index), () -> model.pathAt(a, index));
                    }
                    int far = number(40);
                    both("pathAt(" + a + ", " + far + ")", () -> browser.pathAt(a, far), () -> model.pathAt(a, far));
                    break;
                }
                case 10: both("dominates(" + a + ", " + b + ")", () -> browser.dominates(a, b) ? 1 : 0, () -> model.dominates(a, b) ? 1 : 0); break;
                case 11: both("dominator(" + a + ")", () -> browser.dominator(a), () -> model.dominator(a)); break;
                case 12: both("depth(" + a + ")", () -> browser.depth(a), () -> model.depth(a)); break;
                case 13: {
                    int o = random.nextInt(3) == 0 ? -1 : a, i = number(4);
                    both("dominatedAt(" + o + ", " + i + ")", () -> browser.dominatedAt(o, i), () -> model.dominatedAt(o, i));
                    break;
                }
                case 14: both("retainedSize(" + a + ")", () -> browser.retainedSize(a), () -> model.retainedSize(a)); break;
                case 15: both("retainedObjects(" + a + ")", () -> browser.retainedObjects(a), () -> model.retainedObjects(a)); break;
                case 16: both("component(" + a + ")", () -> browser.component(a), () -> model.component(a)); break;
                case 17: both("componentSize(" + a + ")", () -> browser.componentSize(a), () -> model.componentSize(a)); break;
                case 18: {
                    int s = slotOf(a);
                    both("freedByClearing(" + a + ", " + s + ")", () -> browser.freedByClearing(a, s), () -> model.freedByClearing(a, s));
                    break;
                }
                case 19: both("freedByUnrooting(" + a + ")", () -> browser.freedByUnrooting(a), () -> model.freedByUnrooting(a)); break;
                case 20: {
                    int g = group(), w = number(3);
                    boolean sub = random.nextBoolean();
                    both("group(" + g + ", " + w + ", " + sub + ")", () -> browser.group(g, w, sub), () -> model.group(g, w, sub));
                    break;
                }
                case 21: {
                    int g = group();
                    both("meanRetainedBits(" + g + ")", () -> browser.meanRetainedBits(g), () -> model.meanRetainedBits(g));
                    break;
                }
                case 22: both("shareBits(" + a + ")", () -> browser.shareBits(a), () -> model.shareBits(a)); break;
                case 23: {
                    int p = number(101), i = number(4);
                    both("suspectAt(" + p + ", " + i + ")", () -> browser.suspectAt(p, i), () -> model.suspectAt(p, i));
                    break;
                }
                case 24: {
                    int p = number(101);
                    both("accumulationPoint(" + a + ", " + p + ")", () -> browser.accumulationPoint(a, p), () -> model.accumulationPoint(a, p));
                    break;
                }
                case 25: {
                    int p = number(1), w = number(3);
                    both("compare(" + p + ", " + w + ")", () -> browser.compare(p, w), () -> model.compare(p, w));
                    break;
                }
                case 26: {
                    int p = number(1), g = number(11);
                    both("growth(" + p + ", " + g + ")", () -> browser.growth(p, g), () -> model.growth(p, g));
                    break;
                }
                default: both("digest()", browser::digest, model::digest); break;
            }
        }

        int group() {
            return random.nextInt(3) == 0 ? 10 + random.nextInt(2) : number(model.state.classes.size());
        }

        void text() {
            if (random.nextInt(3) == 0) {
                both("clearText()", browser::clearText, model::clearText);
            }
            boolean commands = random.nextBoolean();
            String written = commands ? someCommands() : someFilter(0);
            if (random.nextInt(3) == 0 && !written.isEmpty()) {
                int at = random.nextInt(written.length());
                String signs = "()!|&*@srdioang<=>0123456789nawcs+-,; x" + (char) 0 + (char) 127;
                written = written.substring(0, at) + signs.charAt(random.nextInt(signs.length()))
                        + written.substring(at + random.nextInt(2));
            }
            for (int i = 0; i < written.length(); i++) {
                int value = random.nextInt(400) == 0 ? wild() : written.charAt(i);
                both("append(" + value + ")", () -> browser.append(value), () -> model.append(value));
            }
            String shown = " of \"" + model.text + "\"";
            if (commands || random.nextInt(10) == 0) {
                both("execute()" + shown, browser::execute, model::execute);
                both("digest()", browser::digest, model::digest);
            }
            if (!commands || random.nextInt(10) == 0) {
                int index = number(5);
                both("matches()" + shown, browser::matches, model::matches);
                both("matchAt(" + index + ")" + shown, () -> browser.matchAt(index), () -> model.matchAt(index));
                both("matchSize(true)" + shown, () -> browser.matchSize(true), () -> model.matchSize(true));
                both("matchSize(false)" + shown, () -> browser.matchSize(false), () -> model.matchSize(false));
            }
        }

        String someFilter(int depth) {
            int kind = random.nextInt(depth > 9 ? 8 : 14);
            switch (kind) {
                case 0: return "*";
                case 1: return "@" + random.nextInt(10);
                case 8: return "!" + someFilter(depth + 1);
                case 9:
                case 10: return "(" + someFilter(depth + 1) + ")";
                case 11: return someFilter(depth + 2) + "&" + someFilter(depth + 2);
                case 12: return someFilter(depth + 2) + "|" + someFilter(depth + 2);
                case 13: return depth == 0 && random.nextInt(3) == 0 ? "((((((((" + (random.nextBoolean() ? "(" : "") + "*))))))))" : "*";
                default: {
                    char value = "srdioang".charAt(random.nextInt(8));
                    char relation = "<=>".charAt(random.nextInt(3));
                    int most = value == 's' || value == 'r' ? 100 : value == 'n' ? 12 : value == 'd' ? (random.nextInt(3) == 0 ? 100 : 3) : 4;
                    String digits = random.nextInt(3) == 0 ? "24" : String.valueOf(random.nextInt(most));
                    return "" + value + relation + (random.nextInt(8) == 0 ? "00" : "") + digits;
                }
            }
        }

        String someCommands() {
            StringBuilder all = new StringBuilder();
            int count = random.nextInt(8);
            for (int i = 0; i < count; i++) {
                int a = Math.floorMod(object(), 100), b = random.nextInt(3);
                switch (random.nextInt(9)) {
                    case 0: all.append("n").append(random.nextInt(Math.min(10, model.state.classes.size()))).append(";"); break;
                    case 1: all.append("a").append(random.nextInt(20) == 0 ? 9 : random.nextInt(9)).append(";"); break;
                    case 2: all.append("w;"); break;
                    case 3: all.append("c;"); break;
                    case 4: all.append("+").append(a).append(",").append(b).append(";"); break;
                    case 5: all.append("-").append(a).append(",").append(b).append(";"); break;
                    default:
                        all.append("s").append(a).append(",").append(random.nextInt(4) == 0 ? slotDigits(a) : "0").append(",")
                                .append(random.nextInt(4) == 0 ? "-" : String.valueOf(Math.floorMod(object(), 100))).append(";");
                        break;
                }
            }
            return all.toString();
        }

        String slotDigits(int object) {
            return String.valueOf(Math.floorMod(slotOf(object), 100));
        }
    }

    record Kind(int superclass, int ownFields, int ownData) { }

    static final class Thing {
        final int group;
        final int serial;
        int age = 0;
        final Set<Integer> roots = new TreeSet<>();
        List<Integer> slots = new ArrayList<>();

        Thing(int group, int serial, int count) {
            this.group = group;
            this.serial = serial;
            for (int i = 0; i < count; i++) {
                slots.add(-1);
            }
        }

        Thing copy() {
            Thing other = new Thing(group, serial, 0);
            other.age = age;
            other.roots.addAll(roots);
            other.slots.addAll(slots);
            return other;
        }
    }

    static final class State {
        final List<Kind> classes = new ArrayList<>();
        final TreeMap<Integer, Thing> objects = new TreeMap<>();
        int nextSerial = 1;

        State copy() {
            State other = new State();
            other.classes.addAll(classes);
            objects.forEach((number, thing) -> other.objects.put(number, thing.copy()));
            other.nextSerial = nextSerial;
            return other;
        }

        int fields(int c) {
            return c == -1 ? 0 : classes.get(c).ownFields() + fields(classes.get(c).superclass());
        }

        int data(int c) {
            return c == -1 ? 0 : classes.get(c).ownData() + data(classes.get(c).superclass());
        }

        int size(Thing thing) {
            int bytes = thing.group == 11 ? 24 : thing.group == 10 ? 16 + 4 * thing.slots.size() : 12 + 4 * fields(thing.group) + data(thing.group);
            while (bytes % 8 != 0) {
                bytes++;
            }
            return bytes;
        }

        int sizes(Set<Integer> set) {
            return set.stream().mapToInt(o -> size(objects.get(o))).sum();
        }

        Thing withSerial(int serial) {
            return objects.values().stream().filter(t -> t.serial == serial).findAny().orElse(null);
        }
    }

    static final class Model {
        State state = new State();
        String text = "";
        final List<State> saved = new ArrayList<>();
        final State[] pictures = new State[2];

        Model() {
            state.classes.add(new Kind(-1, 0, 0));
        }

        void save() {
            saved.add(state.copy());
            if (saved.size() > 5) {
                saved.remove(0);
            }
        }

        static void index(boolean right) {
            if (!right) {
                throw new IndexOutOfBoundsException();
            }
        }

        static void argument(boolean right) {
            if (!right) {
                throw new IllegalArgumentException();
            }
        }

        static void state(boolean right) {
            if (!right) {
                throw new IllegalStateException();
            }
        }

        static boolean in(int value, int least, int most) {
            return least <= value && value <= most;
        }

        boolean isClass(int c) {
            return in(c, 0, state.classes.size() - 1);
        }

        Thing thing(int object) {
            index(state.objects.containsKey(object));
            return state.objects.get(object);
        }

        int defineClass(int superclass, int fields, int data) {
            index(isClass(superclass));
            argument(in(fields, 0, 3) && in(data, 0, 40) && state.fields(superclass) + fields <= 5);
            state(state.classes.size() < 10);
            save();
            state.classes.add(new Kind(superclass, fields, data));
            return state.classes.size() - 1;
        }

        int classInfo(int c, int what) {
            index(isClass(c));
            argument(in(what, 0, 3));
            if (what == 0) {
                return state.classes.get(c).superclass();
            }
            if (what == 1) {
                return state.fields(c);
            }
            return what == 2 ? state.size(new Thing(c, 0, 0)) : (int) state.classes.stream().filter(k -> k.superclass() == c).count();
        }

        boolean isSubclass(int c, int other) {
            index(isClass(c) && isClass(other));
            return c == other || state.classes.get(c).superclass() != -1 && isSubclass(state.classes.get(c).superclass(), other);
        }

        int add(int group, int count) {
            int number = 0;
            while (state.objects.containsKey(number)) {
                number++;
            }
            state.objects.put(number, new Thing(group, state.nextSerial++, count));
            return number;
        }

        int newInstance(int c) {
            index(isClass(c));
            state(state.objects.size() < 40);
            save();
            return add(c, state.fields(c));
        }

        int newArray(int length) {
            argument(in(length, 0, 8));
            state(state.objects.size() < 40);
            save();
            return add(10, length);
        }

        int newHolder() {
            state(state.objects.size() < 40);
            save();
            return add(11, 1);
        }

        int set(int object, int slot, int target) {
            int before = get(object, slot);
            index(target == -1 || state.objects.containsKey(target));
            save();
            state.objects.get(object).slots.set(slot, target);
            return before;
        }

        int get(int object, int slot) {
            index(in(slot, 0, thing(object).slots.size() - 1));
            return thing(object).slots.get(slot);
        }

        int resizeArray(int object, int length) {
            Thing thing = thing(object);
            argument(in(length, 0, 8));
            state(thing.group == 10);
            save();
            thing = state.objects.get(object);
            List<Integer> before = thing.slots;
            thing.slots = new ArrayList<>();
            for (int i = 0; i < length; i++) {
                thing.slots.add(i < before.size() ? before.get(i) : -1);
            }
            return before.size();
        }

        int referent(int object) {
            state(thing(object).group == 11);
            return thing(object).slots.get(0);
        }

        int rootSet(Thing thing) {
            return thing.roots.stream().mapToInt(k -> 1 << k).sum();
        }

        int addRoot(int object, int kind) {
            thing(object);
            argument(in(kind, 0, 2));
            save();
            thing(object).roots.add(kind);
            return rootSet(thing(object));
        }

        int removeRoot(int object, int kind) {
            thing(object);
            argument(in(kind, 0, 2));
            state(thing(object).roots.contains(kind));
            save();
            thing(object).roots.remove(kind);
            return rootSet(thing(object));
        }

        int collect() {
            save();
            Set<Integer> dead = new TreeSet<>(state.objects.keySet());
            dead.removeAll(reachable());
            int freed = state.sizes(dead);
            state.objects.keySet().removeAll(dead);
            for (Thing thing : state.objects.values()) {
                thing.slots.replaceAll(o -> dead.contains(o) ? -1 : o);
                thing.age = thing.age == 99 ? 99 : thing.age + 1;
            }
            return freed;
        }

        int objectInfo(int object, int what) {
            Thing thing = thing(object);
            argument(in(what, 0, 7));
            switch (what) {
                case 0: return thing.group;
                case 1: return thing.serial;
                case 2: return state.size(thing);
                case 3: return thing.age;
                case 4: return thing.slots.size();
                case 5: return rootSet(thing);
                case 6: return references(object).size();
                default: return (int) state.objects.keySet().stream().flatMap(o -> references(o).stream()).filter(t -> t == object).count();
            }
        }

        List<Integer> references(int object) {
            Thing thing = state.objects.get(object);
            return thing.group == 11 ? List.of() : thing.slots.stream().filter(t -> t != -1).toList();
        }

        long drawn;

        int below(int n) {
            drawn = (drawn * 1103515245L + 12345L) % 2147483648L;
            return (int) (drawn / 65536 % n);
        }

        int populate(int start, int count) {
            argument(start >= 0 && in(count, 1, 40));
            state(state.objects.size() + count <= 40);
            save();
            drawn = start;
            for (int i = 0; i < count; i++) {
                int draw = below(4);
                int object;
                if (draw < 2) {
                    int c = below(state.classes.size());
                    object = add(c, state.fields(c));
                } else {
                    object = draw == 2 ? add(10, below(9)) : add(11, 1);
                }
                Thing thing = state.objects.get(object);
                for (int slot = 0; slot < thing.slots.size(); slot++) {
                    if (below(3) != 0) {
                        thing.slots.set(slot, new ArrayList<>(state.objects.keySet()).get(below(state.objects.size())));
                    }
                }
                if (below(5) == 0) {
                    thing.roots.add(below(3));
                }
            }
            return state.objects.size();
        }

        /** All shortest paths are grown level by level; of those that end with an object the smallest one is kept. */
        TreeMap<Integer, List<Integer>> paths() {
            TreeMap<Integer, List<Integer>> paths = new TreeMap<>();
            TreeMap<Integer, List<Integer>> level = new TreeMap<>();
            state.objects.forEach((o, thing) -> {
                if (!thing.roots.isEmpty()) {
                    level.put(o, List.of(o));
                }
            });
            while (!level.isEmpty()) {
                paths.putAll(level);
                TreeMap<Integer, List<Integer>> next = new TreeMap<>();
                for (List<Integer> path : level.values()) {
                    for (int target : references(path.get(path.size() - 1))) {
                        if (!paths.containsKey(target)) {
                            List<Integer> longer = new ArrayList<>(path);
                            longer.add(target);
                            next.merge(target, longer, (p, q) -> Arrays.compare(array(p), array(q)) <= 0 ? p : q);
                        }
                    }
                }
                level.clear();
                level.putAll(next);
            }
            return paths;
        }

        static int[] array(List<Integer> list) {
            return list.stream().mapToInt(i -> i).toArray();
        }

        Set<Integer> reachable() {
            return new TreeSet<>(paths().keySet());
        }

        /** What is reachable in a heap without some objects. */
        Set<Integer> reachableWithout(Set<Integer> gone) {
            State kept = state;
            state = state.copy();
            state.objects.keySet().removeAll(gone);
            state.objects.values().forEach(t -> t.slots.replaceAll(o -> gone.contains(o) ? -1 : o));
            Set<Integer> rest = reachable();
            state = kept;
            return rest;
        }

        Set<Integer> retainedBy(Set<Integer> set) {
            Set<Integer> lost = reachable();
            lost.removeAll(reachableWithout(set));
            return lost;
        }

        State known;
        final TreeMap<Integer, Set<Integer>> knownRetained = new TreeMap<>();

        /** The sets are kept as long as the heap looks the same: the comparisons go slot by slot. */
        Set<Integer> retainedBy(int object) {
            if (known == null || !same(known, state)) {
                known = state.copy();
                knownRetained.clear();
            }
            return knownRetained.computeIfAbsent(object, o -> retainedBy(Set.of(o)));
        }

        static boolean same(State one, State other) {
            return one.objects.keySet().equals(other.objects.keySet()) && one.objects.keySet().stream().allMatch(o -> {
                Thing a = one.objects.get(o);
                Thing b = other.objects.get(o);
                return a.group == b.group && a.roots.equals(b.roots) && a.slots.equals(b.slots);
            });
        }

        int distance(int object) {
            thing(object);
            List<Integer> path = paths().get(object);
            return path == null ? -1 : path.size() - 1;
        }

        int pathAt(int object, int at) {
            thing(object);
            List<Integer> path = paths().get(object);
            return path == null || !in(at, 0, path.size() - 1) ? -1 : path.get(at);
        }

        boolean dominates(int one, int other) {
            thing(one);
            thing(other);
            return retainedBy(one).contains(other);
        }

        Set<Integer> dominatorsOf(int object) {
            Set<Integer> set = new TreeSet<>(state.objects.keySet());
            set.removeIf(o -> !dominates(o, object));
            return set;
        }

        int dominator(int object) {
            thing(object);
            Set<Integer> others = dominatorsOf(object);
            others.remove(object);
            return others.stream().filter(o -> others.stream().allMatch(p -> dominates(p, o))).findAny().orElse(-1);
        }

        int depth(int object) {
            thing(object);
            return dominatorsOf(object).size() - 1;
        }

        List<Integer> dominated(int object) {
            return reachable().stream().filter(o -> dominator(o) == object).toList();
        }

        int dominatedAt(int object, int at) {
            index(object == -1 || state.objects.containsKey(object));
            List<Integer> all = dominated(object);
            return in(at, 0, all.size() - 1) ? all.get(at) : -1;
        }

        int retainedSize(int object) {
            thing(object);
            return state.sizes(retainedBy(object));
        }

        int retainedObjects(int object) {
            thing(object);
            return retainedBy(object).size();
        }

        boolean leads(int from, int to) {
            Set<Integer> seen = new TreeSet<>();
            List<Integer> open = new ArrayList<>(List.of(from));
            while (!open.isEmpty()) {
                int object = open.remove(open.size() - 1);
                if (seen.add(object)) {
                    open.addAll(references(object));
                }
            }
            return seen.contains(to);
        }

        List<Integer> componentOf(int object) {
            thing(object);
            return state.objects.keySet().stream().filter(o -> leads(o, object) && leads(object, o)).toList();
        }

        int component(int object) {
            return componentOf(object).get(0);
        }

        int componentSize(int object) {
            return componentOf(object).size();
        }

        int freedByClearing(int object, int slot) {
            get(object, slot);
            Set<Integer> lost = reachable();
            State kept = state;
            state = state.copy();
            state.objects.get(object).slots.set(slot, -1);
            lost.removeAll(reachable());
            state = kept;
            return state.sizes(lost);
        }

        int freedByUnrooting(int object) {
            thing(object);
            Set<Integer> lost = reachable();
            State kept = state;
            state = state.copy();
            state.objects.get(object).roots.clear();
            lost.removeAll(reachable());
            state = kept;
            return state.sizes(lost);
        }

        Set<Integer> members(int group, boolean subclasses) {
            Set<Integer> set = new TreeSet<>(state.objects.keySet());
            set.removeIf(o -> {
                int its = state.objects.get(o).group;
                return its != group && !(subclasses && its < 10 && group < 10 && isSubclass(its, group));
            });
            return set;
        }

        int group(int group, int what, boolean subclasses) {
            index(isClass(group) || group == 10 || group == 11);
            argument(in(what, 0, 3));
            Set<Integer> set = members(group, subclasses);
            if (what == 1) {
                set.retainAll(reachable());
            }
            return what < 2 ? set.size() : what == 2 ? state.sizes(set) : state.sizes(retainedBy(set));
        }

        long meanRetainedBits(int group) {
            index(isClass(group) || group == 10 || group == 11);
            Set<Integer> set = members(group, false);
            set.retainAll(reachable());
            double sum = set.stream().mapToInt(this::retainedSize).sum();
            return Double.doubleToLongBits(set.isEmpty() ? 0.0 : sum / (double) set.size());
        }

        int shareBits(int object) {
            thing(object);
            Set<Integer> all = reachable();
            return Float.floatToIntBits(all.contains(object) ? (float) retainedSize(object) / (float) state.sizes(all) : 0.0f);
        }

        int suspectAt(int percent, int at) {
            argument(in(percent, 1, 100));
            Set<Integer> all = reachable();
            int total = state.sizes(all);
            Predicate<Integer> large = o -> retainedSize(o) * 100 >= percent * total;
            List<Integer> suspects = new ArrayList<>(all);
            suspects.removeIf(o -> !large.test(o) || dominated(o).stream().anyMatch(large));
            suspects.sort((o, p) -> retainedSize(o) != retainedSize(p) ? retainedSize(p) - retainedSize(o) : o - p);
            return in(at, 0, suspects.size() - 1) ? suspects.get(at) : -1;
        }

        int accumulationPoint(int object, int percent) {
            thing(object);
            argument(in(percent, 1, 100));
            state(reachable().contains(object));
            int present = object;
            while (true) {
                int whole = retainedSize(present);
                List<Integer> large = new ArrayList<>(dominated(present));
                large.removeIf(o -> retainedSize(o) * 100 < percent * whole);
                if (large.isEmpty()) {
                    return present;
                }
                large.sort((o, p) -> retainedSize(o) != retainedSize(p) ? retainedSize(p) - retainedSize(o) : o - p);
                present = large.get(0);
            }
        }

        int append(int value) {
            argument(in(value, 0, 127));
            state(text.length() < 100);
            text += (char) value;
            return text.length();
        }

        int clearText() {
            int length = text.length();
            text = "";
            return length;
        }

        /** Goes through the text sign by sign with what may come next; -1 if it is a filter. */
        int filterError() {
            int open = 0;
            int digits = 0;
            char place = 'u';
            for (int i = 0; i < text.length(); i++) {
                char sign = text.charAt(i);
                boolean digit = '0' <= sign && sign <= '9';
                if (place == 'u' && sign == '(' && open < 8) {
                    open++;
                } else if (place == 'u' && sign == '*') {
                    place = 'e';
                } else if (place == 'u' && sign == '@') {
                    place = '@';
                } else if (place == '@' && digit) {
                    place = 'e';
                } else if (place == 'u' && "srdioang".indexOf(sign) >= 0) {
                    place = 'r';
                } else if (place == 'r' && "<=>".indexOf(sign) >= 0) {
                    place = 'd';
                    digits = 0;
                } else if ((place == 'd' || place == 'm' && digits < 4) && digit) {
                    place = 'm';
                    digits++;
                } else if ((place == 'm' || place == 'e') && (sign == '|' || sign == '&')) {
                    place = 'u';
                } else if ((place == 'm' || place == 'e') && sign == ')' && open > 0) {
                    open--;
                    place = 'e';
                } else if (!(place == 'u' && sign == '!')) {
                    return i;
                }
            }
            return (place == 'm' || place == 'e') && open == 0 ? -1 : text.length();
        }

        /** Splits at the weakest sign outside all parentheses. */
        boolean holds(String filter, int object) {
            for (char weak : new char[] {'|', '&'}) {
                int open = 0;
                for (int i = 0; i < filter.length(); i++) {
                    open += filter.charAt(i) == '(' ? 1 : filter.charAt(i) == ')' ? -1 : 0;
                    if (open == 0 && filter.charAt(i) == weak) {
                        boolean left = holds(filter.substring(0, i), object);
                        boolean right = holds(filter.substring(i + 1), object);
                        return weak == '|' ? left || right : left && right;
                    }
                }
            }
            Thing thing = state.objects.get(object);
            switch (filter.charAt(0)) {
                case '!': return !holds(filter.substring(1), object);
                case '(': return holds(filter.substring(1, filter.length() - 1), object);
                case '*': return !thing.roots.isEmpty();
                case '@': {
                    int c = filter.charAt(1) - '0';
                    return isClass(c) && thing.group < 10 && isSubclass(thing.group, c);
                }
                default: {
                    int value = value(filter.charAt(0), object);
                    int number = Integer.parseInt(filter.substring(2));
                    return filter.charAt(1) == '<' ? value < number : filter.charAt(1) == '=' ? value == number : value > number;
                }
            }
        }

        int value(char letter, int object) {
            switch (letter) {
                case 's': return objectInfo(object, 2);
                case 'r': return retainedSize(object);
                case 'd': return distance(object) == -1 ? 99 : distance(object);
                case 'i': return objectInfo(object, 7);
                case 'o': return objectInfo(object, 6);
                case 'a': return objectInfo(object, 3);
                case 'n': return object;
                default: return objectInfo(object, 0);
            }
        }

        Set<Integer> matching() {
            Set<Integer> set = new TreeSet<>(state.objects.keySet());
            set.removeIf(o -> !holds(text, o));
            return set;
        }

        int matches() {
            return filterError() >= 0 ? -10 - filterError() : matching().size();
        }

        int matchAt(int at) {
            if (filterError() >= 0) {
                return -10 - filterError();
            }
            List<Integer> all = new ArrayList<>(matching());
            return in(at, 0, all.size() - 1) ? all.get(at) : -1;
        }

        int matchSize(boolean retained) {
            if (filterError() >= 0) {
                return -10 - filterError();
            }
            return retained ? state.sizes(retainedBy(matching())) : state.sizes(matching());
        }

        static final String NUMBER = "[0-9][0-9]?";
        static final String COMMAND = "n[0-9];|a[0-9];|w;|s" + NUMBER + "," + NUMBER + ",(?:-|" + NUMBER + ");|[+-]" + NUMBER + "," + NUMBER + ";|c;";
        static final Pattern COMMANDS = Pattern.compile("(?:" + COMMAND + ")*");

        /** The first sign with which what stands before it can't go on to be commands. */
        int commandError() {
            if (COMMANDS.matcher(text).matches()) {
                return -1;
            }
            for (int i = 0; i < text.length(); i++) {
                Matcher matcher = COMMANDS.matcher(text.substring(0, i + 1));
                if (!matcher.matches() && !matcher.hitEnd()) {
                    return i;
                }
            }
            return text.length();
        }

        int execute() {
            if (commandError() >= 0) {
                return -10 - commandError();
            }
            State before = state.copy();
            List<State> savedBefore = new ArrayList<>(saved);
            String[] all = text.isEmpty() ? new String[0] : text.split(";");
            for (int i = 0; i < all.length; i++) {
                try {
                    executeOne(all[i]);
                } catch (RuntimeException e) {
                    state = before;
                    saved.clear();
                    saved.addAll(savedBefore);
                    return -1000 - i;
                }
            }
            saved.clear();
            saved.addAll(savedBefore);
            saved.add(before);
            if (saved.size() > 5) {
                saved.remove(0);
            }
            return all.length;
        }

        void executeOne(String command) {
            String[] words = command.substring(1).split(",");
            int[] numbers = Arrays.stream(words).mapToInt(w -> w.isEmpty() ? 0 : w.equals("-") ? -1 : Integer.parseInt(w)).toArray();
            switch (command.charAt(0)) {
                case 'n': newInstance(numbers[0]); break;
                case 'a': newArray(numbers[0]); break;
                case 'w': newHolder(); break;
                case 's': set(numbers[0], numbers[1], numbers[2]); break;
                case '+': addRoot(numbers[0], numbers[1]); break;
                case '-': removeRoot(numbers[0], numbers[1]); break;
                default: collect(); break;
            }
        }

        int take(int picture) {
            index(in(picture, 0, 1));
            pictures[picture] = state.copy();
            return state.objects.size();
        }

        int compare(int picture, int what) {
            index(in(picture, 0, 1));
            argument(in(what, 0, 3));
            state(pictures[picture] != null);
            State earlier = pictures[picture];
            switch (what) {
                case 0: return (int) state.objects.values().stream().filter(t -> earlier.withSerial(t.serial) == null).count();
                case 1: return (int) earlier.objects.values().stream().filter(t -> state.withSerial(t.serial) == null).count();
                case 2: return (int) state.objects.values().stream().filter(t -> earlier.withSerial(t.serial) != null && changed(earlier, earlier.withSerial(t.serial), t)).count();
                default: return state.sizes(state.objects.keySet()) - earlier.sizes(earlier.objects.keySet());
            }
        }

        boolean changed(State earlier, Thing before, Thing now) {
            return !before.roots.equals(now.roots) || !serials(earlier, before).equals(serials(state, now));
        }

        static List<Integer> serials(State state, Thing thing) {
            return thing.slots.stream().map(o -> o == -1 ? -1 : state.objects.get(o).serial).toList();
        }

        int growth(int picture, int group) {
            index(in(picture, 0, 1) && in(group, 0, 11));
            state(pictures[picture] != null);
            return count(state, group) - count(pictures[picture], group);
        }

        static int count(State state, int group) {
            return (int) state.objects.values().stream().filter(t -> t.group == group).count();
        }

        int undo() {
            state(!saved.isEmpty());
            state = saved.remove(saved.size() - 1);
            return saved.size();
        }

        long digest() {
            List<Integer> values = new ArrayList<>();
            values.add(state.classes.size());
            for (int c = 0; c < state.classes.size(); c++) {
                values.addAll(List.of(classInfo(c, 0), classInfo(c, 1), classInfo(c, 2)));
            }
            TreeMap<Integer, List<Integer>> paths = paths();
            for (int o : state.objects.keySet()) {
                values.add(o);
                for (int what = 0; what <= 5; what++) {
                    values.add(objectInfo(o, what));
                }
                values.addAll(state.objects.get(o).slots);
                values.add(paths.containsKey(o) ? paths.get(o).size() - 1 : -1);
                values.add(dominator(o));
                values.add(retainedSize(o));
                values.add(component(o));
            }
            values.add(text.length());
            values.add(saved.size());
            long h = 1759;
            for (int v : values) {
                h = 31 * h + v;
            }
            return h;
        }
    }
}
