/**
 * The sentences of promises 1 to 19 that name what is too small, too large, empty, full, not there
 * or refused, each with a test of its own. Each part is called by the sentence.
 */
public final class PromiseEdgesTest {
    private static final int MIN = Integer.MIN_VALUE;
    private static final int MAX = Integer.MAX_VALUE;
    private static final String BROADCAST_REFUSED =
        "-1 when there is no process p, else -2 when it has crashed, else -3 when eight messages were made.";
    private static final String DELIVER =
        "Delivers the letter at place j, from 0 for the one that was sent first, of those from one process (crashed or"
        + " not) to another that wait; answers its kind.";
    private static final String DELIVER_REFUSED =
        "-1 when there is no process from or no process to, or they are the same; else -2 when process to has crashed;"
        + " else -3 when there is no such letter.";
    private static final String SUSPECT_REFUSED =
        "False when there is no process p or no process q, they are the same, or p has crashed.";
    private static final String CRASH =
        "Process p crashes, and of the letters that it has sent and that wait, the latest ones that were sent, as many as"
        + " lost says (or all, if they are fewer), are taken away.";
    private static final String CRASH_REFUSED =
        "False when there is no process p, it has crashed, F have crashed, or lost is not 0 .. 20.";
    private static final String LETTERS =
        "How many letters from one process to another wait (0 to itself; those to one that has crashed wait on); -1 when"
        + " there is no process from or no process to.";
    private static final String LETTER =
        "its kind + 8 * its council + 64 * its round + 1024 * w + 262144 * its stamp, where w is the message, the batch,"
        + " or 1 for yes and 0 for no; what the kind does not have counts 0.";
    private static final String NO_LETTER = "0 when there is no process from or no process to, or no such letter.";
    private static final String ROUND =
        "The round of process p; 0 when it is OUT, 11 when it is SPENT (also when it has crashed so); -1 when there is no"
        + " process p.";
    private static final String DELIVERED_AT =
        "The i-th message that process p has delivered, from 0; -1 when there is no process p, or i is not 0 .."
        + " delivered(p) - 1.";
    private static final Check CHECK = new Check("PromiseEdgesTest");

    public static void main(String[] args) {
        tooFewProcesses();
        tooManyProcesses();
        threeToFiveProcesses();
        nothingYet();
        objectsApart();
        broadcastByNobody();
        broadcastByCrashed();
        broadcastOfNinth();
        deliverByPlace();
        deliverFromCrashed();
        deliverBetweenNobody();
        deliverToItself();
        deliverToCrashed();
        deliverNoLetter();
        suspectAgain();
        suspectThenGoesOn();
        suspectNobody();
        suspectItself();
        suspectByCrashed();
        crashTakesLatest();
        crashTakesAll();
        crashTakesTwenty();
        crashTakesWaitingOnly();
        crashOfNobody();
        crashTwice();
        crashBeyondMost();
        crashLostOutside();
        lettersToItself();
        lettersToCrashed();
        lettersOfNobody();
        lettersOfNone();
        letterOfEachKind();
        greatestLetters();
        letterOfNobody();
        letterNotThere();
        suspectsNobody();
        stateOfEach();
        stateOfNobody();
        finishedFromNoneToAll();
        roundFromNoneToSpent();
        estimateOfNone();
        stampOfNone();
        knownButNotDelivered();
        deliveredFromNoneToAll();
        deliveredAtOutside();
        verdictOfNone();
        verdictOutside();
        majorities();
        messagesFromNoneToAll();
        lastOfAllCalls();
        CHECK.end();
    }

    private static int[] noProcessOf(int n) {
        return new int[] {-1, -2, -n, MIN, MIN + 1, n, n + 1, 8, 31, 32, 33, 64, 256, MAX - 1, MAX};
    }

    private static void ofSize(int n, int size) {
        CouncilSequence x = new CouncilSequence(n);
        CHECK.due("n = " + n + ": the last process", x.state(size - 1), 0);
        CHECK.due("n = " + n + ": one more", x.state(size), -1);
        CHECK.due("n = " + n + ": majority", x.majority(), size / 2 + 1);
        x.broadcast(size - 1);
        int sent = 0;
        for (int p = 0; p < size - 1; p++) {
            CHECK.due("n = " + n + ": NEWS to " + p, x.letter(size - 1, p, 0), Letters.news(0));
            sent += x.deliver(size - 1, p, 0);
        }
        CHECK.due("n = " + n + ": NEWS sent", sent, size - 1);
    }

    private static void tooFewProcesses() {
        CHECK.begin("N is n, but 3 when n is less and 5 when n is more.", "less");
        for (int n : new int[] {2, 1, 0, -1, -4, MIN + 1, MIN}) {
            ofSize(n, 3);
        }
    }

    private static void tooManyProcesses() {
        CHECK.begin("N is n, but 3 when n is less and 5 when n is more.", "more");
        for (int n : new int[] {6, 7, 8, 32, 1000, MAX - 1, MAX}) {
            ofSize(n, 5);
        }
    }

    private static void threeToFiveProcesses() {
        CHECK.begin("N is n, but 3 when n is less and 5 when n is more.", "neither");
        for (int n = 3; n <= 5; n++) {
            ofSize(n, n);
        }
    }

    private static void nothingYet() {
        CHECK.begin("Nobody knows, suspects or has delivered anything, no letter waits, nobody has crashed.");
        for (int n = 3; n <= 5; n++) {
            CouncilSequence x = new CouncilSequence(n);
            for (int p = 0; p < n; p++) {
                CHECK.due("known", x.known(p), 0);
                CHECK.due("delivered", x.delivered(p), 0);
                CHECK.due("deliveredAt", x.deliveredAt(p, 0), -1);
                CHECK.due("state", x.state(p), 0);
                CHECK.due("finished", x.finished(p), 0);
                CHECK.due("verdict", x.verdict(p, 0), 0);
                for (int q = 0; q < n; q++) {
                    CHECK.due("suspects", x.suspects(p, q), false);
                    CHECK.due("letters", x.letters(p, q), 0);
                    CHECK.due("letter", x.letter(p, q, 0), 0);
                    CHECK.due("deliver", x.deliver(p, q, 0), p == q ? -1 : -3);
                }
            }
            CHECK.due("messages", x.messages(), 0);
        }
    }

    private static void objectsApart() {
        CHECK.begin("Nobody knows, suspects or has delivered anything, no letter waits, nobody has crashed.", "beside another");
        CouncilSequence used = CouncilRuns.decided(3);
        used.suspect(1, 2, true);
        used.crash(2, 0);
        CouncilSequence x = new CouncilSequence(3);
        CHECK.due("picture", Letters.picture(x, 3), Letters.picture(new CouncilSequence(2), 3));
        x.broadcast(1);
        CHECK.due("messages of the other", used.messages(), 1);
        CHECK.due("known of the other", used.known(1), 1);
    }

    private static void broadcastByNobody() {
        CHECK.begin(BROADCAST_REFUSED, "no process p");
        for (int n = 3; n <= 5; n++) {
            CouncilSequence x = new CouncilSequence(n);
            for (int p : noProcessOf(n)) {
                CHECK.due("broadcast(" + p + ") of " + n, x.broadcast(p), -1);
            }
            CHECK.due("the last there is", x.broadcast(n - 1), 0);
            x.crash(0, 0);
            for (int m = 1; m < 8; m++) {
                x.broadcast(1);
            }
            CHECK.due("after a crash and eight messages", x.broadcast(n), -1);
            CHECK.due("after a crash and eight messages", x.broadcast(-1), -1);
        }
    }

    private static void broadcastByCrashed() {
        CHECK.begin(BROADCAST_REFUSED, "it has crashed");
        CouncilSequence x = new CouncilSequence(5);
        x.crash(4, 0);
        CHECK.due("before any message", x.broadcast(4), -2);
        CHECK.due("another", x.broadcast(3), 0);
        x.crash(3, 0);
        CHECK.due("one that has made one", x.broadcast(3), -2);
        for (int m = 1; m < 8; m++) {
            CHECK.due("another", x.broadcast(0), m);
        }
        CHECK.due("after eight messages", x.broadcast(3), -2);
        CHECK.due("after eight messages", x.broadcast(4), -2);
    }

    private static void broadcastOfNinth() {
        CHECK.begin(BROADCAST_REFUSED, "eight messages were made");
        CouncilSequence x = new CouncilSequence(3);
        for (int m = 0; m < 7; m++) {
            CHECK.due("message " + m, x.broadcast(1), m);
        }
        CHECK.due("the eighth", x.broadcast(2), 7);
        for (int p = 0; p < 3; p++) {
            CHECK.due("the ninth by " + p, x.broadcast(p), -3);
        }
        CouncilSequence y = CouncilRuns.eightCouncils();
        CHECK.due("also when all are delivered", y.broadcast(0), -3);
        CHECK.due("delivered(0)", y.delivered(0), 8);
    }

    private static void deliverByPlace() {
        CHECK.begin(DELIVER, "first, middle and last place");
        CouncilSequence x = new CouncilSequence(4);
        for (int m = 0; m < 4; m++) {
            x.broadcast(2);
            x.broadcast(3);
        }
        CHECK.due("2 to 1", Letters.all(x, 2, 1),
            Letters.row(Letters.news(0), Letters.news(2), Letters.news(4), Letters.news(6)));
        CHECK.due("place 3", x.deliver(2, 1, 3), 1);
        CHECK.due("known(1)", x.known(1), 64);
        CHECK.due("place 1", x.deliver(2, 1, 1), 1);
        CHECK.due("known(1)", x.known(1), 64 + 4);
        CHECK.due("left", Letters.all(x, 2, 1), Letters.row(Letters.news(0), Letters.news(4)));
        CHECK.due("place 0", x.deliver(2, 1, 0), 1);
        CHECK.due("known(1)", x.known(1), 64 + 4 + 1);
        CHECK.due("place 0", x.deliver(2, 1, 0), 1);
        CHECK.due("known(1)", x.known(1), 64 + 16 + 4 + 1);
        CHECK.due("none left", x.letters(2, 1), 0);
        CHECK.due("of the other", x.letters(3, 1), 4);
        CHECK.due("to the other", x.letters(2, 3), 4);
    }

    private static void deliverFromCrashed() {
        CHECK.begin(DELIVER, "from one that has crashed");
        CouncilSequence x = CouncilRuns.opened(3);
        CHECK.due("crash", x.crash(1, 0), true);
        CHECK.due("ESTIMATE", x.deliver(1, 0, 1), 2);
        CHECK.due("state(0)", x.state(0), 3);
        CHECK.due("NEWS", x.deliver(1, 2, 0), 1);
        CHECK.due("none left", x.deliver(1, 2, 0), -3);
    }

    private static void deliverBetweenNobody() {
        CHECK.begin(DELIVER_REFUSED, "no process from or no process to");
        for (int n = 3; n <= 5; n++) {
            CouncilSequence x = CouncilRuns.opened(n);
            x.crash(n - 1, 0);
            for (int p : noProcessOf(n)) {
                CHECK.due("from " + p + " of " + n, x.deliver(p, 0, 0), -1);
                CHECK.due("to " + p + " of " + n, x.deliver(1, p, 0), -1);
                CHECK.due("from and to " + p + " of " + n, x.deliver(p, p, 0), -1);
                CHECK.due("from " + p + " to one that has crashed", x.deliver(p, n - 1, 0), -1);
                CHECK.due("from " + p + " and no such letter", x.deliver(p, 0, -1), -1);
            }
        }
    }

    private static void deliverToItself() {
        CHECK.begin(DELIVER_REFUSED, "they are the same");
        CouncilSequence x = CouncilRuns.opened(5);
        x.crash(4, 0);
        for (int p = 0; p < 5; p++) {
            CHECK.due("from " + p + " to itself", x.deliver(p, p, 0), -1);
            CHECK.due("from " + p + " to itself, no such letter", x.deliver(p, p, 9), -1);
        }
    }

    private static void deliverToCrashed() {
        CHECK.begin(DELIVER_REFUSED, "process to has crashed");
        CouncilSequence x = CouncilRuns.opened(3);
        CHECK.due("letters wait", x.letters(1, 0), 2);
        x.crash(0, 0);
        CHECK.due("a letter that waits", x.deliver(1, 0, 0), -2);
        CHECK.due("the last that waits", x.deliver(1, 0, 1), -2);
        CHECK.due("no such letter", x.deliver(1, 0, 2), -2);
        CHECK.due("no such letter", x.deliver(1, 0, -1), -2);
        CHECK.due("they wait on", x.letters(1, 0), 2);
    }

    private static void deliverNoLetter() {
        CHECK.begin(DELIVER_REFUSED, "no such letter");
        CouncilSequence x = CouncilRuns.opened(3);
        CHECK.due("two wait", x.letters(1, 0), 2);
        for (int j : new int[] {2, 3, 8, MAX - 1, MAX, -1, -2, MIN + 1, MIN}) {
            CHECK.due("place " + j + " of two", x.deliver(1, 0, j), -3);
        }
        for (int j : new int[] {0, 1, MAX, -1, MIN}) {
            CHECK.due("place " + j + " of none", x.deliver(0, 1, j), -3);
        }
        CHECK.due("place 1 of two", x.deliver(1, 0, 1), 2);
        CHECK.due("place 1 of one", x.deliver(1, 0, 1), -3);
    }

    private static void suspectAgain() {
        CHECK.begin("(Whether it did so before does not matter.)");
        CouncilSequence x = new CouncilSequence(5);
        CHECK.due("off, never on", x.suspect(0, 4, false), true);
        CHECK.due("suspects", x.suspects(0, 4), false);
        CHECK.due("on", x.suspect(0, 4, true), true);
        CHECK.due("on again", x.suspect(0, 4, true), true);
        CHECK.due("suspects", x.suspects(0, 4), true);
        CHECK.due("off", x.suspect(0, 4, false), true);
        CHECK.due("suspects", x.suspects(0, 4), false);
        CHECK.due("off again", x.suspect(0, 4, false), true);
        CHECK.due("suspects", x.suspects(0, 4), false);
        CHECK.due("others", x.suspects(4, 0) || x.suspects(0, 3) || x.suspects(0, 1), false);
        x.crash(4, 0);
        CHECK.due("one that has crashed, on", x.suspect(0, 4, true), true);
        CHECK.due("suspects", x.suspects(0, 4), true);
        CHECK.due("one that has crashed, off", x.suspect(0, 4, false), true);
        CHECK.due("suspects", x.suspects(0, 4), false);
    }

    private static void suspectThenGoesOn() {
        CHECK.begin("From now on process p suspects process q, or does not; then p goes on.");
        CouncilSequence x = CouncilRuns.opened(3);
        x.suspect(2, 0, true);
        CHECK.due("round(2)", x.round(2), 2);
        x.suspect(2, 0, false);
        CHECK.due("does not go back", x.round(2), 2);
        CHECK.due("only p goes on", x.round(1), 1);
        x.suspect(2, 1, true);
        CHECK.due("round(2)", x.round(2), 3);
    }

    private static void suspectNobody() {
        CHECK.begin(SUSPECT_REFUSED, "no process p or no process q");
        for (int n = 3; n <= 5; n++) {
            CouncilSequence x = new CouncilSequence(n);
            for (int p : noProcessOf(n)) {
                CHECK.due("p is " + p + " of " + n, x.suspect(p, 0, true), false);
                CHECK.due("q is " + p + " of " + n, x.suspect(0, p, true), false);
                CHECK.due("q is " + p + " of " + n + ", off", x.suspect(0, p, false), false);
                CHECK.due("both are " + p + " of " + n, x.suspect(p, p, true), false);
            }
            for (int q = 0; q < n; q++) {
                CHECK.due("suspects(0, " + q + ")", x.suspects(0, q), false);
            }
            CHECK.due("the last there is", x.suspect(0, n - 1, true), true);
            CHECK.due("by the last there is", x.suspect(n - 1, 0, true), true);
        }
    }

    private static void suspectItself() {
        CHECK.begin(SUSPECT_REFUSED, "they are the same");
        CouncilSequence x = new CouncilSequence(4);
        for (int p = 0; p < 4; p++) {
            CHECK.due("suspect(" + p + ", " + p + ", true)", x.suspect(p, p, true), false);
            CHECK.due("suspect(" + p + ", " + p + ", false)", x.suspect(p, p, false), false);
            CHECK.due("suspects(" + p + ", " + p + ")", x.suspects(p, p), false);
        }
    }

    private static void suspectByCrashed() {
        CHECK.begin(SUSPECT_REFUSED, "p has crashed");
        CouncilSequence x = CouncilRuns.opened(3);
        x.suspect(2, 1, true);
        x.crash(2, 0);
        CHECK.due("on", x.suspect(2, 0, true), false);
        CHECK.due("suspects(2, 0)", x.suspects(2, 0), false);
        CHECK.due("off", x.suspect(2, 1, false), false);
        CHECK.due("suspects(2, 1)", x.suspects(2, 1), true);
        CHECK.due("round(2)", x.round(2), 1);
    }

    private static void crashTakesLatest() {
        CHECK.begin(CRASH, "the latest");
        // Process 1 sends NEWS 0 to 0, 2, 3, an ESTIMATE to 0, then NEWS 1 to 0, 2, 3.
        int[][] left = {{3, 2, 2}, {3, 2, 1}, {3, 1, 1}, {2, 1, 1}, {1, 1, 1}, {1, 1, 0}, {1, 0, 0}, {0, 0, 0}};
        for (int lost = 0; lost < 8; lost++) {
            CouncilSequence x = new CouncilSequence(4);
            x.broadcast(1);
            x.broadcast(1);
            CHECK.due("crash(1, " + lost + ")", x.crash(1, lost), true);
            CHECK.due(lost + " lost, to 0", x.letters(1, 0), left[lost][0]);
            CHECK.due(lost + " lost, to 2", x.letters(1, 2), left[lost][1]);
            CHECK.due(lost + " lost, to 3", x.letters(1, 3), left[lost][2]);
            CHECK.due(lost + " lost, the first", x.letter(1, 0, 0), lost < 7 ? Letters.news(0) : 0);
        }
    }

    private static void crashTakesAll() {
        CHECK.begin(CRASH, "all, if they are fewer");
        CouncilSequence x = new CouncilSequence(3);
        CHECK.due("none there", x.crash(0, 20), true);
        CHECK.due("state(0)", x.state(0), 5);
        for (int lost : new int[] {2, 3, 19, 20}) {
            CouncilSequence y = new CouncilSequence(3);
            y.broadcast(0);
            y.broadcast(1);
            CHECK.due("two there, lost " + lost, y.crash(0, lost), true);
            CHECK.due("0 to 1", y.letters(0, 1), 0);
            CHECK.due("0 to 2", y.letters(0, 2), 0);
            CHECK.due("1 to 0", y.letters(1, 0), 2);
            CHECK.due("1 to 2", y.letters(1, 2), 1);
        }
    }

    private static void crashTakesTwenty() {
        CHECK.begin(CRASH, "twenty of more");
        int[][] sentLostLeft = {{5, 19, 1}, {5, 20, 0}, {6, 20, 4}, {8, 20, 12}, {8, 0, 32}};
        for (int[] row : sentLostLeft) {
            CouncilSequence x = new CouncilSequence(5);
            for (int m = 0; m < row[0]; m++) {
                x.broadcast(0);
            }
            CHECK.due("crash(0, " + row[1] + ")", x.crash(0, row[1]), true);
            int left = 0;
            for (int q = 1; q < 5; q++) {
                left += x.letters(0, q);
            }
            CHECK.due(row[1] + " lost of " + row[0] * 4, left, row[2]);
            CHECK.due("the first of all", x.letter(0, 1, 0), row[2] > 0 ? Letters.news(0) : 0);
        }
    }

    private static void crashTakesWaitingOnly() {
        CHECK.begin(CRASH, "its own, and only those that wait");
        CouncilSequence x = new CouncilSequence(5);
        x.broadcast(0);
        x.broadcast(0);
        x.deliver(0, 4, 1);
        x.deliver(0, 3, 1);
        CHECK.due("NEWS sent on", x.letters(4, 3), 1);
        x.crash(2, 0);
        CHECK.due("crash", x.crash(0, 2), true);
        CHECK.due("0 to 1", Letters.all(x, 0, 1), Letters.row(Letters.news(0)));
        CHECK.due("to one that has crashed", Letters.all(x, 0, 2), Letters.row(Letters.news(0)));
        CHECK.due("0 to 3", Letters.all(x, 0, 3), Letters.row(Letters.news(0)));
        CHECK.due("0 to 4", Letters.all(x, 0, 4), Letters.row(Letters.news(0)));
        CHECK.due("4 to 3", Letters.all(x, 4, 3), Letters.row(Letters.news(1)));
        CHECK.due("4 to 0", x.letters(4, 0), 2);
        CHECK.due("known(4)", x.known(4), 2);
    }

    private static void crashOfNobody() {
        CHECK.begin(CRASH_REFUSED, "no process p");
        for (int n = 3; n <= 5; n++) {
            CouncilSequence x = new CouncilSequence(n);
            for (int p : noProcessOf(n)) {
                CHECK.due("crash(" + p + ", 0) of " + n, x.crash(p, 0), false);
            }
            CHECK.due("the last there is", x.crash(n - 1, 0), true);
        }
    }

    private static void crashTwice() {
        CHECK.begin(CRASH_REFUSED, "it has crashed");
        CouncilSequence x = new CouncilSequence(5);
        x.broadcast(0);
        CHECK.due("once", x.crash(0, 1), true);
        CHECK.due("twice", x.crash(0, 1), false);
        CHECK.due("takes no more", x.letters(0, 3), 1);
        CHECK.due("does not count twice", x.crash(1, 0), true);
    }

    private static void crashBeyondMost() {
        CHECK.begin(CRASH_REFUSED, "F have crashed");
        int[] most = {0, 0, 0, 1, 1, 2};
        for (int n = 3; n <= 5; n++) {
            CouncilSequence x = CouncilRuns.opened(n);
            for (int i = 0; i < most[n]; i++) {
                CHECK.due("crash " + i + " of " + n, x.crash(i, 0), true);
            }
            int waiting = x.letters(n - 1, 0);
            CHECK.due("one more of " + n, x.crash(n - 1, 20), false);
            CHECK.due("it stands", x.state(n - 1), 2);
            CHECK.due("its letters wait", x.letters(n - 1, 0), waiting);
        }
    }

    private static void crashLostOutside() {
        CHECK.begin(CRASH_REFUSED, "lost is not 0 .. 20");
        CouncilSequence x = new CouncilSequence(5);
        x.broadcast(0);
        for (int lost : new int[] {-1, -20, MIN, 21, 22, 32, MAX}) {
            CHECK.due("lost " + lost, x.crash(0, lost), false);
            CHECK.due("state(0)", x.state(0), 1);
            CHECK.due("letters(0, 4)", x.letters(0, 4), 1);
        }
        CHECK.due("lost 0", x.crash(0, 0), true);
        CHECK.due("letters(0, 4)", x.letters(0, 4), 1);
        CHECK.due("lost 20", x.crash(1, 20), true);
    }

    private static void lettersToItself() {
        CHECK.begin(LETTERS, "to itself");
        CouncilSequence x = CouncilRuns.decided(3);
        x.crash(2, 0);
        for (int p = 0; p < 3; p++) {
            CHECK.due("letters(" + p + ", " + p + ")", x.letters(p, p), 0);
        }
    }

    private static void lettersToCrashed() {
        CHECK.begin(LETTERS, "to one that has crashed");
        CouncilSequence x = new CouncilSequence(3);
        x.broadcast(0);
        x.crash(2, 20);
        CHECK.due("sent before", x.letters(0, 2), 1);
        x.broadcast(0);
        CHECK.due("sent after", Letters.all(x, 0, 2), Letters.row(Letters.news(0), Letters.news(1)));
        x.deliver(0, 2, 0);
        CHECK.due("they wait on", x.letters(0, 2), 2);
    }

    private static void lettersOfNobody() {
        CHECK.begin(LETTERS, "no process from or no process to");
        for (int n = 3; n <= 5; n++) {
            CouncilSequence x = CouncilRuns.opened(n);
            for (int p : noProcessOf(n)) {
                CHECK.due("from " + p + " of " + n, x.letters(p, 0), -1);
                CHECK.due("to " + p + " of " + n, x.letters(0, p), -1);
                CHECK.due("from and to " + p + " of " + n, x.letters(p, p), -1);
            }
        }
    }

    private static void lettersOfNone() {
        CHECK.begin(LETTERS, "none, and many");
        CouncilSequence x = new CouncilSequence(5);
        CHECK.due("none yet", x.letters(0, 4), 0);
        for (int m = 0; m < 8; m++) {
            x.broadcast(0);
            CHECK.due("0 to 4", x.letters(0, 4), m + 1);
        }
        for (int m = 7; m >= 0; m--) {
            x.deliver(0, 4, 0);
            CHECK.due("0 to 4", x.letters(0, 4), m);
        }
        CHECK.due("the other way", x.letters(4, 0), 9);
    }

    private static void letterOfEachKind() {
        CHECK.begin(LETTER, "each kind");
        CouncilSequence x = CouncilRuns.secondCouncil();
        CHECK.due("NEWS 0", x.letter(0, 2, 0), 1);
        CHECK.due("NEWS 2", x.letter(0, 2, 2), 1 + 1024 * 2);
        CHECK.due("OFFER of council 0", x.letter(0, 2, 3), 3 + 64 + 1024);
        CHECK.due("VERDICT of council 0", x.letter(0, 2, 4), 5 + 1024);
        CHECK.due("ESTIMATE with stamp 0", x.letter(1, 0, 1), 2 + 8 + 64 + 1024 * 6);
        x.deliver(1, 0, 1);
        CHECK.due("OFFER of council 1", x.letter(0, 2, 5), 3 + 8 + 64 + 1024 * 6);
        Letters.bring(x, 0, 1, Letters.offer(1, 1, 6));
        CHECK.due("VOTE yes", x.letter(1, 0, 1), 4 + 8 + 64 + 1024);

        CouncilSequence y = CouncilRuns.opened(3);
        y.suspect(2, 0, true);
        CHECK.due("VOTE no", y.letter(2, 0, 2), 4 + 64);
        CouncilSequence z = CouncilRuns.offered(4);
        Letters.bring(z, 0, 3, Letters.offer(0, 1, 1));
        CHECK.due("ESTIMATE with stamp 1", z.letter(3, 1, 1), 2 + 64 * 2 + 1024 + 262144);
    }

    private static void greatestLetters() {
        CHECK.begin(LETTER, "message 7, council 7, round 10, stamp 9");
        CouncilSequence x = CouncilRuns.agreed(3, 7);
        CHECK.due("the eighth", x.broadcast(0), 7);
        CHECK.due("NEWS", x.letter(0, 1, x.letters(0, 1) - 1), 1 + 1024 * 7);
        CouncilRuns.tellAll(x, 3, 0, 7);
        CouncilRuns.suspectAll(x, 3);
        CouncilRuns.failToTheLast(x, 3, 7);
        int estimate = 2 + 8 * 7 + 64 * 10 + 1024 * 128 + 262144 * 9;
        CHECK.due("ESTIMATE", x.letter(2, 0, x.letters(2, 0) - 1), estimate);
        CHECK.due("brought", Letters.bring(x, 2, 0, estimate), 2);
        int offer = 3 + 8 * 7 + 64 * 10 + 1024 * 128;
        CHECK.due("OFFER", x.letter(0, 2, x.letters(0, 2) - 1), offer);
        CHECK.due("brought", Letters.bring(x, 0, 2, offer), 3);
        int vote = 4 + 8 * 7 + 64 * 10 + 1024;
        CHECK.due("VOTE", x.letter(2, 0, x.letters(2, 0) - 1), vote);
        CHECK.due("brought", Letters.bring(x, 2, 0, vote), 4);
        int verdict = 5 + 8 * 7 + 1024 * 128;
        CHECK.due("VERDICT", x.letter(0, 1, x.letters(0, 1) - 1), verdict);
        CHECK.due("brought", Letters.bring(x, 0, 1, verdict), 5);
        CHECK.due("finished(1)", x.finished(1), 8);
    }

    private static void letterOfNobody() {
        CHECK.begin(NO_LETTER, "no process from or no process to");
        for (int n = 3; n <= 5; n++) {
            CouncilSequence x = CouncilRuns.opened(n);
            for (int p : noProcessOf(n)) {
                CHECK.due("from " + p + " of " + n, x.letter(p, 0, 0), 0);
                CHECK.due("to " + p + " of " + n, x.letter(1, p, 0), 0);
                CHECK.due("from and to " + p + " of " + n, x.letter(p, p, 0), 0);
            }
        }
    }

    private static void letterNotThere() {
        CHECK.begin(NO_LETTER, "no such letter");
        CouncilSequence x = CouncilRuns.opened(3);
        CHECK.due("the last of two", x.letter(1, 0, 1), Letters.estimate(0, 1, 1, 0));
        for (int j : new int[] {2, 3, MAX, -1, -2, MIN}) {
            CHECK.due("place " + j + " of two", x.letter(1, 0, j), 0);
            CHECK.due("place " + j + " of none", x.letter(0, 1, j), 0);
            CHECK.due("place " + j + " to itself", x.letter(1, 1, j), 0);
        }
        CHECK.due("place 0 of none", x.letter(0, 1, 0), 0);
        CHECK.due("place 0 to itself", x.letter(1, 1, 0), 0);
        x.crash(0, 0);
        CHECK.due("to one that has crashed", x.letter(1, 0, 1), Letters.estimate(0, 1, 1, 0));
        CHECK.due("to one that has crashed, not there", x.letter(1, 0, 2), 0);
    }

    private static void suspectsNobody() {
        CHECK.begin("Whether process p suspects process q; false when there is no process p or q.");
        for (int n = 3; n <= 5; n++) {
            CouncilSequence x = new CouncilSequence(n);
            CouncilRuns.suspectAll(x, n);
            for (int p : noProcessOf(n)) {
                CHECK.due("p is " + p + " of " + n, x.suspects(p, 0), false);
                CHECK.due("q is " + p + " of " + n, x.suspects(0, p), false);
                CHECK.due("both are " + p + " of " + n, x.suspects(p, p), false);
            }
            for (int p = 0; p < n; p++) {
                for (int q = 0; q < n; q++) {
                    CHECK.due("suspects(" + p + ", " + q + ") of " + n, x.suspects(p, q), p != q);
                }
            }
        }
    }

    private static void stateOfEach() {
        CHECK.begin("The state of process p: 0 OUT, 1 GATHER, 2 AWAIT, 3 COUNT, 4 SPENT; 5 when it has crashed; -1 when there is no process p.", "each");
        CouncilSequence out = new CouncilSequence(3);
        stateThenCrash(out, 2, 0);
        CouncilSequence gather = CouncilRuns.opened(3);
        stateThenCrash(gather, 0, 1);
        CouncilSequence await = CouncilRuns.opened(3);
        stateThenCrash(await, 2, 2);
        CouncilSequence count = CouncilRuns.offered(3);
        stateThenCrash(count, 0, 3);
        CouncilSequence spent = CouncilRuns.failed(3, 10);
        stateThenCrash(spent, 1, 4);
    }

    private static void stateThenCrash(CouncilSequence x, int p, int state) {
        CHECK.due("state", x.state(p), state);
        x.crash(p, 0);
        CHECK.due("crashed in state " + state, x.state(p), 5);
    }

    private static void stateOfNobody() {
        CHECK.begin("The state of process p: 0 OUT, 1 GATHER, 2 AWAIT, 3 COUNT, 4 SPENT; 5 when it has crashed; -1 when there is no process p.", "no process");
        for (int n = 3; n <= 5; n++) {
            CouncilSequence x = CouncilRuns.opened(n);
            x.crash(n - 1, 0);
            for (int p : noProcessOf(n)) {
                CHECK.due("state(" + p + ") of " + n, x.state(p), -1);
            }
        }
    }

    private static void finishedFromNoneToAll() {
        CHECK.begin("How many councils process p has finished; -1 when there is no process p.");
        for (int n = 3; n <= 5; n++) {
            CouncilSequence x = new CouncilSequence(n);
            CHECK.due("none", x.finished(n - 1), 0);
            for (int council = 0; council < 8; council++) {
                CouncilRuns.agree(x, n, council);
                CHECK.due("of " + n, x.finished(n - 1), council + 1);
            }
            x.crash(n - 1, 0);
            CHECK.due("also when it has crashed", x.finished(n - 1), 8);
            for (int p : noProcessOf(n)) {
                CHECK.due("finished(" + p + ") of " + n, x.finished(p), -1);
            }
        }
    }

    private static void roundFromNoneToSpent() {
        CHECK.begin(ROUND, "OUT, SPENT, and crashed so");
        CouncilSequence x = CouncilRuns.failed(5, 10);
        CHECK.due("SPENT", x.round(0), 11);
        x.crash(0, 20);
        CHECK.due("crashed SPENT", x.round(0), 11);
        CouncilSequence y = CouncilRuns.lastRound(5);
        CHECK.due("the last", y.round(0), 10);
        y.crash(0, 20);
        CHECK.due("crashed in the last", y.round(0), 10);
        CouncilSequence z = CouncilRuns.decided(5);
        CHECK.due("OUT", z.round(0), 0);
        z.crash(0, 0);
        CHECK.due("crashed OUT", z.round(0), 0);
        z.crash(4, 0);
        CHECK.due("crashed in the first", z.round(4), 1);

        CHECK.begin(ROUND, "no process");
        for (int n = 3; n <= 5; n++) {
            CouncilSequence opened = CouncilRuns.opened(n);
            for (int p : noProcessOf(n)) {
                CHECK.due("round(" + p + ") of " + n, opened.round(p), -1);
            }
        }
    }

    private static void estimateOfNone() {
        CHECK.begin("The estimate of process p; 0 when it is OUT; -1 when there is no process p.");
        CouncilSequence x = CouncilRuns.decided(5);
        CHECK.due("OUT after a council", x.estimate(0), 0);
        CHECK.due("in a council", x.estimate(4), 1);
        x.crash(0, 0);
        CHECK.due("crashed OUT", x.estimate(0), 0);
        x.crash(4, 0);
        CHECK.due("crashed in a council", x.estimate(4), 1);
        CHECK.due("OUT at first", new CouncilSequence(3).estimate(2), 0);
        for (int n = 3; n <= 5; n++) {
            CouncilSequence opened = CouncilRuns.opened(n);
            for (int p : noProcessOf(n)) {
                CHECK.due("estimate(" + p + ") of " + n, opened.estimate(p), -1);
            }
        }
    }

    private static void stampOfNone() {
        CHECK.begin("The stamp of process p; 0 when it is OUT; -1 when there is no process p.");
        CouncilSequence x = CouncilRuns.decided(5);
        CHECK.due("OUT after a council", x.stamp(0), 0);
        CHECK.due("in a council, no offer taken", x.stamp(4), 0);
        CHECK.due("in a council, an offer taken", x.stamp(1), 1);
        x.crash(0, 0);
        CHECK.due("crashed OUT", x.stamp(0), 0);
        x.crash(1, 0);
        CHECK.due("crashed in a council", x.stamp(1), 1);
        CouncilSequence last = CouncilRuns.lastOffer(5);
        CHECK.due("the greatest", last.stamp(4), 10);
        for (int n = 3; n <= 5; n++) {
            CouncilSequence opened = CouncilRuns.opened(n);
            for (int p : noProcessOf(n)) {
                CHECK.due("stamp(" + p + ") of " + n, opened.stamp(p), -1);
            }
        }
    }

    private static void knownButNotDelivered() {
        CHECK.begin("(A message that it has delivered it may not know.)");
        CouncilSequence x = new CouncilSequence(3);
        x.broadcast(0);
        x.deliver(0, 1, 0);
        x.deliver(1, 0, 1);
        Letters.bring(x, 0, 1, Letters.offer(0, 1, 1));
        Letters.bring(x, 1, 0, Letters.vote(0, 1, 1));
        Letters.bring(x, 0, 2, Letters.verdict(0, 1));
        CHECK.due("delivered", x.deliveredAt(2, 0), 0);
        CHECK.due("not known", x.known(2), 0);

        CHECK.begin("The set of messages that process p knows, as a batch; -1 when there is no process p.");
        CouncilSequence y = new CouncilSequence(3);
        for (int m = 0; m < 8; m++) {
            CHECK.due("known", y.known(0), (1 << m) - 1);
            y.broadcast(0);
        }
        CHECK.due("all eight", y.known(0), 255);
        CHECK.due("none", y.known(1), 0);
        y.crash(0, 0);
        CHECK.due("also when it has crashed", y.known(0), 255);
        for (int n = 3; n <= 5; n++) {
            CouncilSequence opened = CouncilRuns.opened(n);
            for (int p : noProcessOf(n)) {
                CHECK.due("known(" + p + ") of " + n, opened.known(p), -1);
            }
        }
    }

    private static void deliveredFromNoneToAll() {
        CHECK.begin("How many messages process p has delivered; -1 when there is no process p.");
        for (int n = 3; n <= 5; n++) {
            CouncilSequence x = new CouncilSequence(n);
            CHECK.due("none", x.delivered(n - 1), 0);
            for (int council = 0; council < 8; council++) {
                CouncilRuns.agree(x, n, council);
                CHECK.due("of " + n, x.delivered(n - 1), council + 1);
            }
            x.crash(n - 1, 0);
            CHECK.due("also when it has crashed", x.delivered(n - 1), 8);
            for (int p : noProcessOf(n)) {
                CHECK.due("delivered(" + p + ") of " + n, x.delivered(p), -1);
            }
        }
    }

    private static void deliveredAtOutside() {
        CHECK.begin(DELIVERED_AT, "i is not 0 .. delivered(p) - 1");
        CouncilSequence x = CouncilRuns.agreed(4, 2);
        CHECK.due("first", x.deliveredAt(3, 0), 0);
        CHECK.due("last", x.deliveredAt(3, 1), 1);
        for (int i : new int[] {2, 3, 7, 8, MAX, -1, -2, MIN}) {
            CHECK.due("deliveredAt(3, " + i + ")", x.deliveredAt(3, i), -1);
        }
        x.broadcast(3);
        CHECK.due("known, not delivered", x.deliveredAt(3, 2), -1);
        x.crash(3, 0);
        CHECK.due("also when it has crashed", x.deliveredAt(3, 1), 1);
        CouncilSequence y = CouncilRuns.eightCouncils();
        CHECK.due("the eighth", y.deliveredAt(2, 7), 7);
        CHECK.due("beyond the eighth", y.deliveredAt(2, 8), -1);
        CHECK.due("none", new CouncilSequence(3).deliveredAt(0, 0), -1);

        CHECK.begin(DELIVERED_AT, "no process");
        for (int n = 3; n <= 5; n++) {
            CouncilSequence agreed = CouncilRuns.agreed(n, 1);
            for (int p : noProcessOf(n)) {
                CHECK.due("deliveredAt(" + p + ", 0) of " + n, agreed.deliveredAt(p, 0), -1);
            }
        }
    }

    private static void verdictOfNone() {
        CHECK.begin("The batch of the verdict of council k that process p has; 0 when it has none; -1 when there is no process p or k is not 0 .. 7.", "none, and ahead");
        CouncilSequence x = CouncilRuns.agreed(3, 7);
        for (int k = 0; k < 7; k++) {
            CHECK.due("verdict(2, " + k + ")", x.verdict(2, k), 1 << k);
        }
        CHECK.due("none", x.verdict(2, 7), 0);
        CouncilSequence y = CouncilRuns.secondCouncil();
        Letters.bring(y, 1, 0, Letters.estimate(1, 1, 6, 0));
        Letters.bring(y, 0, 1, Letters.offer(1, 1, 6));
        Letters.bring(y, 1, 0, Letters.vote(1, 1, 1));
        Letters.bring(y, 0, 2, Letters.verdict(1, 6));
        CHECK.due("of a council ahead", y.verdict(2, 1), 6);
        CHECK.due("of its own", y.verdict(2, 0), 0);
        y.crash(2, 0);
        CHECK.due("also when it has crashed", y.verdict(2, 1), 6);
    }

    private static void verdictOutside() {
        CHECK.begin("The batch of the verdict of council k that process p has; 0 when it has none; -1 when there is no process p or k is not 0 .. 7.", "outside");
        CouncilSequence x = CouncilRuns.eightCouncils();
        CHECK.due("the first", x.verdict(1, 0), 1);
        CHECK.due("the last", x.verdict(1, 7), 128);
        for (int k : new int[] {-1, -8, MIN, 8, 9, 32, MAX}) {
            CHECK.due("verdict(1, " + k + ")", x.verdict(1, k), -1);
        }
        for (int n = 3; n <= 5; n++) {
            CouncilSequence y = CouncilRuns.agreed(n, 1);
            for (int p : noProcessOf(n)) {
                CHECK.due("verdict(" + p + ", 0) of " + n, y.verdict(p, 0), -1);
                CHECK.due("verdict(" + p + ", 8) of " + n, y.verdict(p, 8), -1);
            }
        }
    }

    private static void majorities() {
        CHECK.begin("A MAJORITY is N / 2 rounded down, plus 1");
        int[][] rows = {{MIN, 2}, {2, 2}, {3, 2}, {4, 3}, {5, 3}, {6, 3}, {MAX, 3}};
        for (int[] row : rows) {
            CouncilSequence x = new CouncilSequence(row[0]);
            CHECK.due("n = " + row[0], x.majority(), row[1]);
            x.crash(0, 0);
            CHECK.due("n = " + row[0] + ", one has crashed", x.majority(), row[1]);
        }
    }

    private static void messagesFromNoneToAll() {
        CHECK.begin("How many messages were made.");
        CouncilSequence x = new CouncilSequence(4);
        CHECK.due("none", x.messages(), 0);
        for (int m = 0; m < 8; m++) {
            x.broadcast(m % 4);
            CHECK.due("made", x.messages(), m + 1);
            x.broadcast(4);
            x.broadcast(-1);
            CHECK.due("refused", x.messages(), m + 1);
            x.deliver(m % 4, (m + 1) % 4, 0);
            CHECK.due("sent on", x.messages(), m + 1);
        }
        x.broadcast(0);
        CHECK.due("full", x.messages(), 8);
        x.crash(0, 20);
        CHECK.due("after a crash", x.messages(), 8);
    }

    private static void lastOfAllCalls() {
        CHECK.begin("An object is used for at most 512 calls after it has been made");
        for (int n = 3; n <= 5; n++) {
            CouncilSequence x = new CouncilSequence(n);
            for (int call = 1; call < 512; call++) {
                CHECK.due("call " + call, x.suspect(call % n, (call + 1) % n, call % 2 == 0), true);
            }
            CHECK.due("the 512th", x.broadcast(n - 1), 0);
        }
    }
}
