import java.lang.management.ManagementFactory;

/**
 * Rules 7 and 12 of LANGUAGE.md: no call throws or fails to end, for any arguments in any state, far
 * beyond the 512th call too, where the answers are free; and no call makes objects.
 */
public final class AnyCallTest {
    private static final int OBJECTS = 300;
    private static final int CALLS = 4000;
    private static final int METHODS = 18;
    private static final int FEW_BYTES = 200;
    private static final int[] WILD = {
        Integer.MIN_VALUE, -1000, -1, 5, 6, 7, 8, 9, 20, 21, 31, 32, 33, 64, 1000, Integer.MAX_VALUE - 1, Integer.MAX_VALUE};
    private static final Check CHECK = new Check("AnyCallTest");

    private long seed;
    private final int wildness;
    private final CouncilSequence x;
    private final long[] sums = new long[METHODS];

    private AnyCallTest(int number) {
        seed = number * 7919L + 17;
        wildness = new int[] {2, 10, 50}[number % 3];
        x = new CouncilSequence(number % 9 - 1);
    }

    public static void main(String[] args) {
        CHECK.begin("rule 12");
        // Asked first, as a machine that has grown warm leaves out the making of what it can do without.
        CHECK.due("bytes made by " + CALLS + " calls are few", bytesMade() < FEW_BYTES, true);
        for (int number = 0; number < OBJECTS; number++) {
            CHECK.begin("object " + number);
            CHECK.due("a long run ends with", new AnyCallTest(number).ending(), "no exception");
        }
        CHECK.end();
    }

    private String ending() {
        try {
            run();
            return "no exception";
        } catch (RuntimeException | StackOverflowError e) {
            return e.toString();
        }
    }

    private void run() {
        for (int i = 0; i < CALLS; i++) {
            call();
        }
    }

    /** The letters are delivered most often, so that the runs come to the last council and round. */
    private void call() {
        int which = next(METHODS * 2);
        int p = number(5);
        int q = number(5);
        switch (which) {
            case 0 -> sums[which] += x.broadcast(p);
            case 1 -> sums[which] += x.suspect(p, q, next(2) == 0) ? 1 : 0;
            case 2 -> sums[which] += x.crash(p, number(21)) ? 1 : 0;
            case 3 -> sums[which] += x.letters(p, q);
            case 4 -> sums[which] += x.letter(p, q, number(40));
            case 5 -> sums[which] += x.suspects(p, q) ? 1 : 0;
            case 6 -> sums[which] += x.state(p);
            case 7 -> sums[which] += x.finished(p);
            case 8 -> sums[which] += x.round(p);
            case 9 -> sums[which] += x.estimate(p);
            case 10 -> sums[which] += x.stamp(p);
            case 11 -> sums[which] += x.known(p);
            case 12 -> sums[which] += x.delivered(p);
            case 13 -> sums[which] += x.deliveredAt(p, number(8));
            case 14 -> sums[which] += x.verdict(p, number(8));
            case 15 -> sums[which] += x.majority();
            case 16 -> sums[which] += x.messages();
            default -> sums[17] += x.deliver(p, q, number(3));
        }
    }

    private int number(int bound) {
        return next(100) < wildness ? WILD[next(WILD.length)] : next(bound);
    }

    /** A row of numbers that makes no objects, as what is made here would be counted too. */
    private int next(int bound) {
        seed = seed * 6364136223846793005L + 1442695040888963407L;
        return (int) ((seed >>> 33) % bound);
    }

    /** The most that one of some runs makes. */
    private static long bytesMade() {
        long most = 0;
        for (int number = 0; number < 12; number++) {
            most = Math.max(most, leastBytesMade(number));
        }
        return most;
    }

    /** A run is done again: what the machine makes when it first comes to a line does not count. */
    private static long leastBytesMade(int number) {
        if (!(ManagementFactory.getThreadMXBean() instanceof com.sun.management.ThreadMXBean threads)
                || !threads.isThreadAllocatedMemorySupported()) {
            return 0;
        }
        long self = Thread.currentThread().getId();
        long least = Long.MAX_VALUE;
        for (int again = 0; again < 3; again++) {
            AnyCallTest test = new AnyCallTest(number);
            long before = threads.getThreadAllocatedBytes(self);
            test.run();
            least = Math.min(least, threads.getThreadAllocatedBytes(self) - before);
        }
        return least;
    }
}
