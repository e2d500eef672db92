import com.sun.management.ThreadMXBean;
import java.lang.management.ManagementFactory;

/** All calls of a run live in one room: a new browser makes its rows, and the calls make nothing more. */
public final class RoomTests {
    private static final ThreadMXBean THREADS = (ThreadMXBean) ManagementFactory.getThreadMXBean();
    private static final int MOST_FOR_NEW = 100_000;
    private static final int MOST_FOR_CALLS = 2_000;

    private static long made() {
        return THREADS.getCurrentThreadAllocatedBytes();
    }

    private static long write(HeapBrowser x, String text) {
        long sum = x.clearText();
        for (int i = 0; i < text.length(); i++) {
            sum += x.append(text.charAt(i));
        }
        return sum;
    }

    private static long change(HeapBrowser x, int round) {
        int picture = round % 2;
        long sum = x.take(picture) + x.addRoot(0, round % 3) + x.undo() + x.addRoot(1, 1) + x.removeRoot(1, 1);
        sum += write(x, "+0,1;s0,0,0;-0,1;s0,0,-;c;") + x.execute() + write(x, "+0,1;c;+0,1;") + x.execute();
        return sum + x.compare(picture, 2) + x.growth(picture, 10) + x.collect();
    }

    private static long ask(HeapBrowser x) {
        long sum = write(x, "!(r>50&@0)|i<3&*|(o=0|d>2)");
        sum += x.matches() + x.matchAt(1) + x.matchSize(true) + x.matchSize(false) + x.execute();
        for (int object = 0; object < 40; object += 13) {
            sum += x.distance(object) + x.pathAt(object, 1) + x.dominator(object) + x.depth(object) + x.dominatedAt(object, 0);
            sum += x.retainedSize(object) + x.retainedObjects(object) + x.component(object) + x.componentSize(object);
            sum += x.freedByUnrooting(object) + x.shareBits(object) + x.objectInfo(object, 7) + x.suspectAt(5, 0);
        }
        return sum + x.group(0, 3, true) + x.meanRetainedBits(10) + x.digest();
    }

    private static long run(HeapBrowser x) {
        long sum = x.newHolder() + x.addRoot(0, 0) + x.defineClass(0, 3, 5);
        for (int round = 0; round < 4 && x.objects() < 40; round++) {
            sum += x.populate(round, 40 - x.objects());
            sum += ask(x) + change(x, round);
        }
        return sum;
    }

    public static void main(String[] args) {
        long sum = run(new HeapBrowser());
        made();
        long before = made();
        HeapBrowser x = new HeapBrowser();
        long afterNew = made();
        sum += run(x);
        long afterCalls = made();
        boolean right = afterNew - before <= MOST_FOR_NEW && afterCalls - afterNew <= MOST_FOR_CALLS;
        System.out.println("a new browser takes " + (afterNew - before) + " bytes, the calls " + (afterCalls - afterNew)
                + " more" + (right ? "" : ": too much") + " (" + (sum == 0 ? "no" : "some") + " answers)");
        if (!right) {
            System.exit(1);
        }
    }
}
