import java.util.function.Function;
import java.util.function.Supplier;

/** "A call that is refused (one that answers a negative number, or false) changes nothing.": each refusal by itself. */
public final class RefusedTest {
    private static final int N = 5;
    private static final Check CHECK = new Check("RefusedTest");

    public static void main(String[] args) {
        CHECK.begin("A call that is refused (one that answers a negative number, or false) changes nothing.");
        broadcasts();
        delivers();
        suspicions();
        crashes();
        questions();
        CHECK.end();
    }

    private static void broadcasts() {
        refused("broadcast(-1)", RefusedTest::atWork, x -> x.broadcast(-1), -1);
        refused("broadcast(N)", RefusedTest::atWork, x -> x.broadcast(N), -1);
        refused("broadcast of a crashed one", RefusedTest::atWork, x -> x.broadcast(4), -2);
        refused("the ninth message", RefusedTest::allMade, x -> x.broadcast(0), -3);
    }

    private static void delivers() {
        refused("deliver(-1, 0, 0)", RefusedTest::atWork, x -> x.deliver(-1, 0, 0), -1);
        refused("deliver(N, 0, 0)", RefusedTest::atWork, x -> x.deliver(N, 0, 0), -1);
        refused("deliver(0, -1, 0)", RefusedTest::atWork, x -> x.deliver(0, -1, 0), -1);
        refused("deliver(0, N, 0)", RefusedTest::atWork, x -> x.deliver(0, N, 0), -1);
        refused("deliver(1, 1, 0)", RefusedTest::atWork, x -> x.deliver(1, 1, 0), -1);
        refused("deliver to a crashed one", RefusedTest::atWork, x -> x.deliver(0, 4, 0), -2);
        refused("deliver before the first", RefusedTest::atWork, x -> x.deliver(1, 0, -1), -3);
        refused("deliver after the last", RefusedTest::atWork, x -> x.deliver(1, 0, 2), -3);
        refused("deliver where none waits", RefusedTest::atWork, x -> x.deliver(0, 1, 0), -3);
    }

    private static void suspicions() {
        refused("suspect(-1, 0, true)", RefusedTest::atWork, x -> x.suspect(-1, 0, true), false);
        refused("suspect(N, 0, true)", RefusedTest::atWork, x -> x.suspect(N, 0, true), false);
        refused("suspect(0, -1, true)", RefusedTest::atWork, x -> x.suspect(0, -1, true), false);
        refused("suspect(0, N, true)", RefusedTest::atWork, x -> x.suspect(0, N, true), false);
        refused("suspect(1, 31, true)", RefusedTest::atWork, x -> x.suspect(1, 31, true), false);
        refused("suspect(1, 32, true)", RefusedTest::atWork, x -> x.suspect(1, 32, true), false);
        refused("suspect(2, 35, false)", RefusedTest::atWork, x -> x.suspect(2, 35, false), false);
        refused("suspect(1, 1, true)", RefusedTest::atWork, x -> x.suspect(1, 1, true), false);
        refused("suspect by a crashed one", RefusedTest::atWork, x -> x.suspect(4, 0, true), false);
        refused("trust by a crashed one", RefusedTest::atWork, x -> x.suspect(4, 3, false), false);
    }

    private static void crashes() {
        refused("crash(-1, 0)", RefusedTest::atWork, x -> x.crash(-1, 0), false);
        refused("crash(N, 0)", RefusedTest::atWork, x -> x.crash(N, 0), false);
        refused("crash twice", RefusedTest::atWork, x -> x.crash(4, 20), false);
        refused("crash(0, -1)", RefusedTest::atWork, x -> x.crash(0, -1), false);
        refused("crash(0, 21)", RefusedTest::atWork, x -> x.crash(0, 21), false);
        refused("a third crash", RefusedTest::allMade, x -> x.crash(0, 20), false);
    }

    private static void questions() {
        refused("letters(-1, 0)", RefusedTest::atWork, x -> x.letters(-1, 0), -1);
        refused("state(N)", RefusedTest::atWork, x -> x.state(N), -1);
        refused("deliveredAt(0, 8)", RefusedTest::atWork, x -> x.deliveredAt(0, 8), -1);
        refused("verdict(0, 8)", RefusedTest::atWork, x -> x.verdict(0, 8), -1);
        refused("suspects(1, 0)", RefusedTest::atWork, x -> x.suspects(1, 0), false);
    }

    /** Asks for the refused answer, and that afterwards all is as in an object without the call. */
    private static <T> void refused(String name, Supplier<CouncilSequence> made, Function<CouncilSequence, T> call, T due) {
        CouncilSequence x = made.get();
        CHECK.due(name, call.apply(x).toString(), due.toString());
        CHECK.due(name + ": what stands", Letters.picture(x, N), Letters.picture(made.get(), N));
        CHECK.due(name + ": what comes", comes(x), comes(made.get()));
    }

    /** What a refused call may have changed unseen shows in what later calls do. */
    private static String comes(CouncilSequence x) {
        StringBuilder text = new StringBuilder();
        text.append(x.broadcast(2)).append(' ').append(x.crash(3, 1)).append(' ').append(x.crash(1, 1));
        for (int turn = 0; turn < 4; turn++) {
            for (int p = 1; p < N; p++) {
                text.append(' ').append(x.deliver(p, 0, 0)).append(' ').append(x.deliver(0, p, 0));
            }
        }
        return text.append('\n').append(Letters.picture(x, N)).toString();
    }

    /** Process 0 counts in council 0, the others await; 2 suspects 3; 4 suspects 3 and has crashed. */
    private static CouncilSequence atWork() {
        CouncilSequence x = CouncilRuns.offered(N);
        x.suspect(2, 3, true);
        x.suspect(4, 3, true);
        x.broadcast(1);
        x.crash(4, 1);
        Letters.bring(x, 0, 1, Letters.offer(0, 1, 1));
        x.deliver(1, 0, 0);
        return x;
    }

    /** Eight messages were made, two processes have crashed. */
    private static CouncilSequence allMade() {
        CouncilSequence x = atWork();
        for (int m = 2; m < 8; m++) {
            x.broadcast(m % 3);
        }
        x.crash(3, 0);
        return x;
    }
}
