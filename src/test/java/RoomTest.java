import com.sun.management.ThreadMXBean;
import java.lang.management.ManagementFactory;

/** An object's 512 calls: right to the last one, and made within the room that there is. */
public final class RoomTest {
    private static final int CALLS = 512;
    /** An element takes a byte at least, and an object twelve: so neither room is outgrown below this. */
    private static final long MOST_BYTES = 7200000;
    private static final String DEAREST = "a=$0;b=$1;c=$2;d=$3;e=$4;sort a e;a=a<b;b=a?c:d;sums a e;open a;open b;open e";

    public static void main(String[] args) {
        ThreadMXBean threads = (ThreadMXBean) ManagementFactory.getThreadMXBean();
        long thread = Thread.currentThread().getId();
        carryOutOften();
        long before = threads.getThreadAllocatedBytes(thread);
        int wrong = carryOutOften();
        long bytes = threads.getThreadAllocatedBytes(thread) - before;
        Check.same("wrong answers in 512 calls", 0, wrong);
        Check.holds("bytes used for one object's calls: " + bytes, bytes < MOST_BYTES);
        Check.end();
    }

    /** Calls the object 512 times, nearly all of them runs, and counts wrong answers. */
    private static int carryOutOften() {
        ThreeClerks x = new ThreeClerks();
        int calls = 0;
        for (int i = 0; i < DEAREST.length(); i++, calls++) {
            x.write(DEAREST.charAt(i));
        }
        for (int i = 0; i < 5; i++, calls++) {
            x.input(i, 50 - 10 * i);
        }
        for (int i = 0; i < 3; i++, calls++) {
            x.seed(i, i, -i);
        }
        int wrong = x.compile() == 12 ? 0 : 1;
        calls++;
        for (; calls + 2 <= CALLS; calls += 2) {
            // In rising order 10 .. 50; then a is 1 and so b is 30.
            wrong += x.run(calls) == 3 ? 0 : 1;
            wrong += x.output(2) == 1 + 30 + 30 + 40 + 50 ? 0 : 1;
        }
        return wrong;
    }
}
