import java.util.Map;
import java.util.Random;
import java.util.TreeMap;

/** Random runs, every answer held against the model's; the runs keep to the 512 calls of an object. */
public final class ModelTest {
    private static final int RUNS = 6000;
    private static final int MOST_CALLS = 512;
    private static final int[] WILD = {-1, Integer.MIN_VALUE, 8, 20, 21, 32, 33, 64, Integer.MAX_VALUE};
    private static final String[] MUST_BE_SEEN = {
        "a in OUT", "a in GATHER", "a in AWAIT", "a in COUNT", "a in SPENT", "a with one message", "a with several messages",
        "b", "c takes its own", "c takes another's", "c changes the batch", "d", "d in spite of suspicion", "e",
        "f yes", "f no", "SPENT", "verdict when SPENT", "verdict of a council ahead", "finished 8", "broadcast -3",
        "deliver -2", "letter of a crashed one", "crash in OUT", "crash in GATHER", "crash in AWAIT", "crash in COUNT",
        "crash in SPENT", "crash leaves letters", "crash takes all letters"};
    private static final Check CHECK = new Check("ModelTest");
    private static final Map<String, Integer> SEEN = new TreeMap<>();

    private final Random random;
    private final CouncilSequence x;
    private final Model model;
    private final StringBuilder told = new StringBuilder();
    private final int suspicion;
    private final int haste;
    private int calls;

    private ModelTest(int seed) {
        random = new Random(seed);
        int n = random.nextInt(20) == 0 ? WILD[random.nextInt(WILD.length)] : 2 + random.nextInt(5);
        x = new CouncilSequence(n);
        model = new Model(n);
        suspicion = new int[] {0, 2, 10, 40}[random.nextInt(4)];
        haste = new int[] {0, 2, 10, 40}[random.nextInt(4)];
        told.append("new CouncilSequence(").append(n).append(")");
    }

    public static void main(String[] args) {
        for (int seed = 0; seed < RUNS && CHECK.allRight(); seed++) {
            CHECK.begin("run " + seed);
            new ModelTest(seed).run();
        }
        CHECK.begin("what the runs came to");
        for (String what : MUST_BE_SEEN) {
            CHECK.due("'" + what + "' was seen", SEEN.getOrDefault(what, 0) > 0, true);
        }
        CHECK.end();
    }

    private void run() {
        int acts = 40 + random.nextInt(400);
        while (calls < acts && CHECK.allRight()) {
            act();
            ask(process());
        }
        agree();
        while (calls < MOST_CALLS && CHECK.allRight()) {
            ask(random.nextInt(model.n));
        }
        model.seen.forEach((what, times) -> SEEN.merge(what, times, Integer::sum));
    }

    private void act() {
        int die = random.nextInt(100);
        if (die < haste || model.quiet()) {
            int p = process();
            check("broadcast(" + p + ")", model.broadcast(p), x.broadcast(p));
        } else if (die < haste + suspicion) {
            int p = process();
            int q = process();
            boolean on = random.nextInt(4) != 0;
            check("suspect(" + p + ", " + q + ", " + on + ")", model.suspect(p, q, on), x.suspect(p, q, on));
        } else if (random.nextInt(60) == 0) {
            int p = process();
            int lost = random.nextInt(4) == 0 ? WILD[random.nextInt(WILD.length)] : random.nextInt(23) - 1;
            check("crash(" + p + ", " + lost + ")", model.crash(p, lost), x.crash(p, lost));
        } else {
            deliverSome();
        }
    }

    /** Mostly a letter that waits, so that the runs come far. */
    private void deliverSome() {
        int from = process();
        int to = process();
        for (int i = 0; i < 20 && (model.letters(from, to) <= 0 || i < 19 && model.state(to) == 5); i++) {
            from = process();
            to = process();
        }
        int waits = Math.max(1, model.letters(from, to));
        int j = random.nextInt(30) == 0 ? place() : random.nextInt(2) == 0 ? 0 : random.nextInt(waits);
        check("deliver(" + from + ", " + to + ", " + j + ")", model.deliver(from, to, j), x.deliver(from, to, j));
    }

    private int process() {
        int die = random.nextInt(100);
        return die == 0 ? WILD[random.nextInt(WILD.length)] : die == 1 ? model.n : random.nextInt(model.n);
    }

    private int place() {
        return random.nextInt(8) == 0 ? WILD[random.nextInt(WILD.length)] : random.nextInt(11) - 1;
    }

    private void ask(int p) {
        int q = process();
        int j = place();
        switch (random.nextInt(20)) {
            case 0 -> check("letters(" + p + ", " + q + ")", model.letters(p, q), x.letters(p, q));
            case 1, 2, 3, 4 -> askLetter(p, q);
            case 5 -> check("suspects(" + p + ", " + q + ")", model.suspects(p, q), x.suspects(p, q));
            case 6 -> check("state(" + p + ")", model.state(p), x.state(p));
            case 7 -> check("finished(" + p + ")", model.finished(p), x.finished(p));
            case 8 -> check("round(" + p + ")", model.round(p), x.round(p));
            case 9 -> check("estimate(" + p + ")", model.estimate(p), x.estimate(p));
            case 10 -> check("stamp(" + p + ")", model.stamp(p), x.stamp(p));
            case 11 -> check("known(" + p + ")", model.known(p), x.known(p));
            case 12 -> check("delivered(" + p + ")", model.delivered(p), x.delivered(p));
            case 13, 14 -> check("deliveredAt(" + p + ", " + j + ")", model.deliveredAt(p, j), x.deliveredAt(p, j));
            case 15, 16 -> check("verdict(" + p + ", " + j + ")", model.verdict(p, j), x.verdict(p, j));
            case 17 -> check("majority()", model.majority(), x.majority());
            case 18 -> check("messages()", model.messages(), x.messages());
            default -> check("letter(" + p + ", " + q + ", " + j + ")", model.letter(p, q, j), x.letter(p, q, j));
        }
    }

    private void askLetter(int p, int q) {
        int j = random.nextInt(Math.max(1, model.letters(p, q)) + 1);
        check("letter(" + p + ", " + q + ", " + j + ")", model.letter(p, q, j), x.letter(p, q, j));
    }

    /** What two processes have delivered is the same as far as both have come, and holds nothing twice. */
    private void agree() {
        int longest = 0;
        for (int p = 1; p < model.n; p++) {
            longest = x.delivered(p) > x.delivered(longest) ? p : longest;
            calls += 2;
        }
        int seen = 0;
        for (int i = 0; i < model.delivered(longest); i++) {
            int message = x.deliveredAt(longest, i);
            calls++;
            CHECK.due("message " + message + " delivered twice", (seen & 1 << message) != 0, false);
            seen |= 1 << message;
            for (int p = 0; p < model.n; p++) {
                int there = x.deliveredAt(p, i);
                calls++;
                CHECK.due("order of " + p + " at " + i, there == -1 || there == message, true);
            }
        }
    }

    private void check(String call, long want, long got) {
        calls++;
        told.append("\n  ").append(call).append(" = ").append(got);
        CHECK.due(call, got, want);
        if (got != want) {
            System.out.println(told);
        }
    }

    private void check(String call, boolean want, boolean got) {
        check(call, want ? 1 : 0, got ? 1 : 0);
    }
}
