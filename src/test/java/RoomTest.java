import com.sun.management.ThreadMXBean;
import java.lang.management.ManagementFactory;

/** All calls of one run live in one room: the room is made with the object, and no call makes more. */
public final class RoomTest {
    /** Below what the least object, made by one of the calls in each round, would take. */
    private static final long FEW_BYTES = 150;
    /** An int is four bytes: some 6,700 elements and 110 objects, and over half as much again. */
    private static final long MOST_BYTES_OF_ONE = 50_000;

    private static final ThreadMXBean THREADS =
            (ThreadMXBean) ManagementFactory.getThreadMXBean();

    private static int wrong = 0;

    public static void main(String[] args) {
        if (!THREADS.isThreadAllocatedMemorySupported()) {
            System.out.println("this machine does not tell what is made");
            return;
        }
        THREADS.setThreadAllocatedMemoryEnabled(true);
        made("an object", MOST_BYTES_OF_ONE, FirstSigns::new);
        FirstSigns x = new FirstSigns();
        fill(x);
        made("rules and words", FEW_BYTES, () -> askOfWords(x));
        made("claims", FEW_BYTES, () -> askOfClaims(x));
        made("changes", FEW_BYTES, () -> change(x));
        System.out.println(wrong == 0 ? "the room is kept" : wrong + " not as due");
        if (wrong != 0) {
            System.exit(1);
        }
    }

    private static void made(String what, long most, Runnable run) {
        // The first time also loads what the run itself needs.
        run.run();
        long before = THREADS.getThreadAllocatedBytes(Thread.currentThread().getId());
        run.run();
        long bytes = THREADS.getThreadAllocatedBytes(Thread.currentThread().getId()) - before;
        if (bytes > most) {
            wrong++;
            System.out.println(what + ": " + bytes + " bytes were made, at most " + most + " are due");
        }
    }

    /** The longest forms, so that each call has the most to do. */
    private static void fill(FirstSigns x) {
        x.rule(0, 0, 0);
        for (int s = 1; s < 6; s++) {
            x.rule(s, 0, s * 111);
            x.rule(s, 1, s * 111 + 111);
            x.claim(s, s * 111);
        }
    }

    private static void askOfWords(FirstSigns x) {
        for (int k = 0; k < 13; k++) {
            x.ofRule(k % 6, k % 3);
            x.read(666666666, 121212121212L, k % 4);
            x.norm(666666666);
            x.least(1 + k % 6);
            x.words(123456, k);
            x.parts(6, 666, k % 2);
            x.firsts(666666666);
        }
    }

    private static void askOfClaims(FirstSigns x) {
        for (int k = 0; k < 13; k++) {
            x.ofClaim(k % 6);
            x.reduced(666666666, k - 1);
            x.alike(666666666, 666666666);
            x.common(666666666, 666666666, k % 2);
            x.broken(k % 2);
            x.might(k % 6, k - 1);
        }
    }

    private static void change(FirstSigns x) {
        for (int k = 0; k < 13; k++) {
            x.rule(5, 2, 11);
            x.claim(5, 11);
            x.settle();
            x.many(k % 5);
            x.undo(3);
        }
    }
}
