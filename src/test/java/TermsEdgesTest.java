/**
 * The sentences of "Terms" that name a bound, an order or an end, each with a test of its own. Each
 * part is called by the sentence.
 */
public final class TermsEdgesTest {
    private static final int OUT = 0;
    private static final int GATHER = 1;
    private static final int AWAIT = 2;
    private static final int COUNT = 3;
    private static final int SPENT = 4;
    private static final String LEADER =
        "the LEADER of round r (in every council) is the process (r - 1) modulo N.";
    private static final String HAS =
        "Unless it is OUT, it has also a round, an ESTIMATE (a batch) and a STAMP.";
    private static final String TO_ALL =
        "To send something TO ALL OTHERS is to send a letter to each other process, in the order of their numbers.";
    private static final String NEWS =
        "NEWS of a message that it does not know: it knows the message from then on, and sends this NEWS to all others.";
    private static final String VERDICT =
        "VERDICT of a council of which it has none: it has that verdict from then on, and sends this VERDICT to all others.";
    private static final Check CHECK = new Check("TermsEdgesTest");

    public static void main(String[] args) {
        mostCrashes();
        messageNumbers();
        batchBits();
        lastCouncil();
        lastRound();
        leaderWrapsAround();
        leaderInEveryCouncil();
        spentHasItsEstimate();
        outHasNone();
        waitsUntilDelivered();
        newsInOrder();
        offersInOrder();
        verdictsInOrder();
        notToItself();
        newsThatIsKnown();
        newsOfDelivered();
        verdictThatItHas();
        verdictOfFinishedCouncil();
        crashedDoesNothing();
        crashedStaysAsItWas();
        CHECK.end();
    }

    private static void mostCrashes() {
        CHECK.begin("at most F = (N - 1) / 2 rounded down may crash");
        int[] most = {0, 0, 0, 1, 1, 2};
        for (int n = 3; n <= 5; n++) {
            CouncilSequence x = new CouncilSequence(n);
            for (int i = 0; i < most[n]; i++) {
                CHECK.due("crash " + (i + 1) + " of " + n, x.crash(n - 1 - i, 0), true);
            }
            for (int p = 0; p < n; p++) {
                CHECK.due("one more of " + n, x.crash(p, 0), false);
                CHECK.due("state(" + p + ") of " + n, x.state(p), p < n - most[n] ? OUT : 5);
            }
        }
    }

    private static void messageNumbers() {
        CHECK.begin("MESSAGES have the numbers 0 .. 7, in the order in which they were made.");
        CouncilSequence x = new CouncilSequence(4);
        int[] makers = {3, 3, 0, 1, 2, 0, 1, 3};
        for (int m = 0; m < 8; m++) {
            CHECK.due("message " + m, x.broadcast(makers[m]), m);
        }
        CHECK.due("known(0)", x.known(0), 4 + 32);
        CHECK.due("known(1)", x.known(1), 8 + 64);
        CHECK.due("known(2)", x.known(2), 16);
        CHECK.due("known(3)", x.known(3), 1 + 2 + 128);
        CHECK.due("3 to 2", Letters.all(x, 3, 2), Letters.row(Letters.news(0), Letters.news(1), Letters.news(7)));
    }

    private static void batchBits() {
        CHECK.begin("A BATCH is a set of messages, written as an int in which bit m is set if m is in it.");
        CouncilSequence x = new CouncilSequence(3);
        for (int m = 0; m < 8; m++) {
            x.broadcast(0);
            x.deliver(0, 1, 0);
        }
        CHECK.due("all eight", x.known(1), 255);
        CHECK.due("the first alone", x.estimate(1), 1);
        council(x, 0, 1);
        CHECK.due("all but the first", x.estimate(0), 254);
        CHECK.due("all but the first", x.estimate(1), 254);
        council(x, 1, 254);
        CHECK.due("verdict(1, 1)", x.verdict(1, 1), 254);
        for (int m = 0; m < 8; m++) {
            CHECK.due("deliveredAt(1, " + m + ")", x.deliveredAt(1, m), m);
        }
    }

    /** Processes 0 and 1 of three agree in round 1 on this batch, which both have as estimate. */
    private static void council(CouncilSequence x, int council, int batch) {
        CHECK.due("ESTIMATE", Letters.bring(x, 1, 0, Letters.estimate(council, 1, batch, 0)), 2);
        CHECK.due("OFFER", Letters.bring(x, 0, 1, Letters.offer(council, 1, batch)), 3);
        CHECK.due("VOTE", Letters.bring(x, 1, 0, Letters.vote(council, 1, 1)), 4);
        CHECK.due("VERDICT", Letters.bring(x, 0, 1, Letters.verdict(council, batch)), 5);
    }

    private static void lastCouncil() {
        CHECK.begin("COUNCILS have the numbers 0 .. 7");
        for (int n = 3; n <= 5; n++) {
            CouncilSequence x = CouncilRuns.agreed(n, 7);
            CHECK.due("seven finished", x.finished(n - 1), 7);
            CHECK.due("none of the eighth", x.verdict(0, 7), 0);
            CHECK.due("the eighth opens", x.broadcast(1), 7);
            CHECK.due("its ESTIMATE", x.letter(1, 0, x.letters(1, 0) - 1), Letters.estimate(7, 1, 128, 0));
            CHECK.due("its NEWS", Letters.bring(x, 1, 0, Letters.news(7)), 1);
            CHECK.due("the leader gathers", x.state(0), GATHER);
            CHECK.due("to 2", Letters.bring(x, 1, 2, Letters.news(7)), 1);
            for (int p = 1; p <= n / 2; p++) {
                CHECK.due("ESTIMATE of " + p, Letters.bring(x, p, 0, Letters.estimate(7, 1, 128, 0)), 2);
            }
            for (int p = 1; p <= n / 2; p++) {
                CHECK.due("OFFER", Letters.bring(x, 0, p, Letters.offer(7, 1, 128)), 3);
                CHECK.due("VOTE", Letters.bring(x, p, 0, Letters.vote(7, 1, 1)), 4);
            }
            CHECK.due("VERDICT", Letters.bring(x, 0, n - 1, Letters.verdict(7, 128)), 5);
            for (int p = 0; p < n; p += n - 1) {
                CHECK.due("eight finished", x.finished(p), 8);
                CHECK.due("verdict of the eighth", x.verdict(p, 7), 128);
                CHECK.due("state", x.state(p), OUT);
                CHECK.due("round", x.round(p), 0);
            }
            CHECK.due("a letter after the last council", Letters.bring(x, 1, n - 1, Letters.news(7)), n == 3 ? 0 : 1);
            CHECK.due("a suspicion after it", x.suspect(n - 1, 0, true), true);
            CHECK.due("opens none", x.state(n - 1), OUT);
            CHECK.due("finishes none", x.finished(n - 1), 8);
        }
    }

    private static void lastRound() {
        CHECK.begin("ROUNDS 1 .. 10");
        for (int n = 3; n <= 5; n++) {
            CouncilSequence x = CouncilRuns.lastOffer(n);
            int leader = CouncilRuns.leaderOfLast(n);
            CHECK.due("round of the leader", x.round(leader), 10);
            CHECK.due("state of the leader", x.state(leader), COUNT);
            CHECK.due("stamp of the leader", x.stamp(leader), 10);
            for (int i = 1; i <= n / 2; i++) {
                int p = (leader + i) % n;
                CHECK.due("round(" + p + ")", x.round(p), 10);
                CHECK.due("state(" + p + ")", x.state(p), AWAIT);
                CHECK.due("OFFER", Letters.bring(x, leader, p, Letters.offer(0, 10, 1)), 3);
                CHECK.due("VOTE", Letters.bring(x, p, leader, Letters.vote(0, 10, 1)), 4);
            }
            CHECK.due("verdict in the last round", x.verdict(leader, 0), 1);
            CHECK.due("finished", x.finished(leader), 1);
        }
    }

    private static void leaderWrapsAround() {
        CHECK.begin(LEADER, "rounds 1 to 10");
        int[][] leaders = {{0, 1, 2, 0, 1, 2, 0, 1, 2, 0}, {0, 1, 2, 3, 0, 1, 2, 3, 0, 1}, {0, 1, 2, 3, 4, 0, 1, 2, 3, 4}};
        for (int n = 3; n <= 5; n++) {
            for (int round = 1; round <= 10; round++) {
                CouncilSequence x = CouncilRuns.failed(n, round - 1);
                int leader = leaders[n - 3][round - 1];
                CHECK.due("leader of " + round + " of " + n + " is there", x.round(leader), round);
                CHECK.due("leader of " + round + " of " + n + " gathers", x.state(leader), GATHER);
                int other = leader == 0 ? n - 1 : leader - 1;
                for (int q = 0; q < n; q++) {
                    if (q != other) {
                        CHECK.due("ESTIMATE of round " + round + " from " + other + " to " + q + " of " + n,
                            Letters.waits(x, other, q, 2, 0, round), q == leader);
                    }
                }
            }
        }
    }

    private static void leaderInEveryCouncil() {
        CHECK.begin(LEADER, "council 1");
        CouncilSequence x = CouncilRuns.opened(3);
        x.suspect(1, 0, true);
        x.suspect(2, 0, true);
        Letters.bring(x, 2, 1, Letters.estimate(0, 2, 1, 0));
        Letters.bring(x, 1, 2, Letters.offer(0, 2, 1));
        Letters.bring(x, 2, 1, Letters.vote(0, 2, 1));
        CHECK.due("council 0 ends in round 2", x.finished(1), 1);
        x.suspect(1, 0, false);
        x.broadcast(1);
        CHECK.due("round 1 again", x.round(1), 1);
        CHECK.due("ESTIMATE to 0", x.letter(1, 0, x.letters(1, 0) - 1), Letters.estimate(1, 1, 2, 0));
        x.suspect(1, 0, true);
        CHECK.due("round 2", x.round(1), 2);
        CHECK.due("leads it", x.state(1), GATHER);
    }

    private static void spentHasItsEstimate() {
        CHECK.begin(HAS, "SPENT");
        for (int n = 3; n <= 5; n++) {
            CouncilSequence x = CouncilRuns.failed(n, 10);
            for (int p = 0; p < n; p++) {
                int led = 1 + p + (9 - p) / n * n;
                CHECK.due("state(" + p + ") of " + n, x.state(p), SPENT);
                CHECK.due("round(" + p + ") of " + n, x.round(p), 11);
                CHECK.due("estimate(" + p + ") of " + n, x.estimate(p), 1);
                CHECK.due("stamp(" + p + ") of " + n, x.stamp(p), led);
            }
        }
    }

    private static void outHasNone() {
        CHECK.begin(HAS, "OUT");
        CouncilSequence x = CouncilRuns.lastOffer(4);
        CHECK.due("round", x.round(1), 10);
        CHECK.due("estimate", x.estimate(1), 1);
        CHECK.due("stamp", x.stamp(1), 10);
        for (int p = 2; p < 4; p++) {
            Letters.bring(x, 1, p, Letters.offer(0, 10, 1));
            Letters.bring(x, p, 1, Letters.vote(0, 10, 1));
        }
        CHECK.due("OUT", x.state(1), OUT);
        CHECK.due("no round", x.round(1), 0);
        CHECK.due("no estimate", x.estimate(1), 0);
        CHECK.due("no stamp", x.stamp(1), 0);
    }

    private static void waitsUntilDelivered() {
        CHECK.begin("A letter that is sent waits until it is delivered.");
        CouncilSequence x = new CouncilSequence(3);
        x.broadcast(0);
        x.broadcast(0);
        x.broadcast(1);
        CHECK.due("overtaken", x.deliver(0, 2, 1), 1);
        CHECK.due("overtaken by another's", x.deliver(1, 2, 0), 1);
        x.suspect(2, 0, true);
        x.crash(0, 0);
        CHECK.due("still there", Letters.all(x, 0, 2), Letters.row(Letters.news(0)));
        CHECK.due("delivered", x.deliver(0, 2, 0), 1);
        CHECK.due("gone", x.letters(0, 2), 0);
        CHECK.due("not twice", x.deliver(0, 2, 0), -3);
    }

    private static void newsInOrder() {
        CHECK.begin(TO_ALL, "NEWS");
        for (int n = 3; n <= 5; n++) {
            for (int lost = 0; lost <= n; lost++) {
                CouncilSequence x = new CouncilSequence(n);
                x.broadcast(0);
                x.crash(0, lost);
                firstOthersHave(x, n, 0, lost, Letters.news(0));

                CouncilSequence y = new CouncilSequence(n);
                y.broadcast(0);
                y.deliver(0, 2, 0);
                y.crash(2, lost + 1);
                firstOthersHave(y, n, 2, lost, Letters.news(0));
            }
        }
    }

    private static void offersInOrder() {
        CHECK.begin(TO_ALL, "OFFER");
        for (int n = 3; n <= 5; n++) {
            for (int lost = 0; lost <= n; lost++) {
                CouncilSequence x = CouncilRuns.offered(n);
                x.crash(0, lost);
                firstOthersHave(x, n, 0, lost, Letters.offer(0, 1, 1));
            }
        }
    }

    private static void verdictsInOrder() {
        CHECK.begin(TO_ALL, "VERDICT");
        for (int n = 3; n <= 5; n++) {
            for (int lost = 0; lost < n; lost++) {
                CouncilSequence x = CouncilRuns.decided(n);
                x.crash(0, lost);
                firstOthersHave(x, n, 0, lost, Letters.verdict(0, 1));

                CouncilSequence y = CouncilRuns.decided(n);
                Letters.bring(y, 0, 1, Letters.verdict(0, 1));
                y.crash(1, lost);
                firstOthersHave(y, n, 1, lost, Letters.verdict(0, 1));
            }
        }
    }

    /** The others have, in the order of their numbers, this as the last letter from p, but for those lost. */
    private static void firstOthersHave(CouncilSequence x, int n, int p, int lost, int letter) {
        int left = Math.max(0, n - 1 - lost);
        for (int q = 0; q < n; q++) {
            if (q != p) {
                int last = x.letter(p, q, x.letters(p, q) - 1);
                CHECK.due(lost + " lost of " + n + ": from " + p + " to " + q, last == letter, left > 0);
                left--;
            }
        }
    }

    private static void notToItself() {
        CHECK.begin(TO_ALL, "not to itself");
        for (int n = 3; n <= 5; n++) {
            CouncilSequence x = CouncilRuns.decided(n);
            for (int p = 0; p < n; p++) {
                CHECK.due("letters(" + p + ", " + p + ")", x.letters(p, p), 0);
                CHECK.due("letter(" + p + ", " + p + ")", x.letter(p, p, 0), 0);
            }
        }
    }

    private static void newsThatIsKnown() {
        CHECK.begin(NEWS, "known before");
        CouncilSequence x = new CouncilSequence(4);
        x.broadcast(3);
        CHECK.due("1 learns", x.deliver(3, 1, 0), 1);
        CHECK.due("known(1)", x.known(1), 1);
        for (int q = 0; q < 4; q++) {
            CHECK.due("1 to " + q, x.letter(1, q, 0), q == 1 ? 0 : Letters.news(0));
        }
        CHECK.due("its own comes back", x.deliver(1, 3, 0), 1);
        CHECK.due("2 learns", x.deliver(3, 2, 0), 1);
        CHECK.due("2 is told again", x.deliver(1, 2, 0), 1);
        CHECK.due("known(2)", x.known(2), 1);
        CHECK.due("sent once, 3 to 1", x.letters(3, 1), 0);
        CHECK.due("sent once, 2 to 1", Letters.all(x, 2, 1), Letters.row(Letters.news(0)));
        CHECK.due("sent once, 2 to 3", Letters.all(x, 2, 3), Letters.row(Letters.news(0)));
    }

    private static void newsOfDelivered() {
        CHECK.begin(NEWS, "delivered before");
        CouncilSequence x = CouncilRuns.secondCouncil();
        Letters.bring(x, 0, 2, Letters.verdict(0, 1));
        CHECK.due("delivered", x.delivered(2), 1);
        CHECK.due("not known", x.known(2), 0);
        CHECK.due("NEWS", Letters.bring(x, 0, 2, Letters.news(0)), 1);
        CHECK.due("known", x.known(2), 1);
        CHECK.due("2 to 0", Letters.all(x, 2, 0), Letters.row(Letters.verdict(0, 1), Letters.news(0)));
        CHECK.due("2 to 1", Letters.all(x, 2, 1), Letters.row(Letters.verdict(0, 1), Letters.news(0)));
        CHECK.due("not delivered again", x.delivered(2), 1);
        CHECK.due("no council for it", x.state(2), OUT);
    }

    private static void verdictThatItHas() {
        CHECK.begin(VERDICT, "had before");
        CouncilSequence x = CouncilRuns.decided(4);
        CHECK.due("to 1", Letters.bring(x, 0, 1, Letters.verdict(0, 1)), 5);
        CHECK.due("to 2", Letters.bring(x, 0, 2, Letters.verdict(0, 1)), 5);
        CHECK.due("verdict(2, 0)", x.verdict(2, 0), 1);
        for (int q = 0; q < 4; q++) {
            int last = x.letter(2, q, x.letters(2, q) - 1);
            CHECK.due("2 to " + q, last == Letters.verdict(0, 1), q != 2);
        }
        int to0 = x.letters(2, 0);
        int to3 = x.letters(2, 3);
        CHECK.due("to 2 again", Letters.bring(x, 1, 2, Letters.verdict(0, 1)), 5);
        CHECK.due("sent once, 2 to 0", x.letters(2, 0), to0);
        CHECK.due("sent once, 2 to 3", x.letters(2, 3), to3);
        CHECK.due("finished once", x.finished(2), 1);
        CHECK.due("delivered once", x.delivered(2), 1);
        int from0 = x.letters(0, 3);
        CHECK.due("to the one that came to it", Letters.bring(x, 1, 0, Letters.verdict(0, 1)), 5);
        CHECK.due("sent once, 0 to 3", x.letters(0, 3), from0);
    }

    private static void verdictOfFinishedCouncil() {
        CHECK.begin(VERDICT, "finished before");
        CouncilSequence x = CouncilRuns.agreed(3, 2);
        CHECK.due("of council 0, in council 2", Letters.bring(x, 2, 1, Letters.verdict(0, 1)), 5);
        CHECK.due("verdict(1, 0)", x.verdict(1, 0), 1);
        CHECK.due("finished(1)", x.finished(1), 2);
        CHECK.due("verdict(1, 2)", x.verdict(1, 2), 0);
    }

    private static void crashedDoesNothing() {
        CHECK.begin("A process that has crashed does nothing more");
        CouncilSequence x = CouncilRuns.opened(3);
        x.crash(0, 0);
        String before = Letters.picture(x, 3);
        CHECK.due("broadcast", x.broadcast(0), -2);
        CHECK.due("ESTIMATE to it", x.deliver(1, 0, 1), -2);
        CHECK.due("NEWS to it", x.deliver(1, 0, 0), -2);
        CHECK.due("suspect", x.suspect(0, 1, true), false);
        CHECK.due("picture", Letters.picture(x, 3), before);
        CHECK.due("letters(0, 1)", x.letters(0, 1), 0);
    }

    private static void crashedStaysAsItWas() {
        CHECK.begin("what it is in stays as it was");
        int[] states = {OUT, GATHER, AWAIT, COUNT, SPENT};
        int[] rounds = {0, 1, 1, 1, 11};
        int[] stamps = {0, 0, 0, 1, 10};
        for (int i = 0; i < states.length; i++) {
            CouncilSequence x = standing(states[i]);
            int p = states[i] == AWAIT || states[i] == SPENT ? 1 : 0;
            CHECK.due("state " + i, x.state(p), states[i]);
            x.suspect(p, 2, true);
            CHECK.due("crash in state " + i, x.crash(p, 20), true);
            CHECK.due("state", x.state(p), 5);
            CHECK.due("round in state " + i, x.round(p), rounds[i]);
            CHECK.due("estimate in state " + i, x.estimate(p), i == 0 ? 0 : 1);
            CHECK.due("stamp in state " + i, x.stamp(p), stamps[i]);
            CHECK.due("known in state " + i, x.known(p), 1);
            CHECK.due("finished in state " + i, x.finished(p), i == 0 ? 1 : 0);
            CHECK.due("delivered in state " + i, x.delivered(p), i == 0 ? 1 : 0);
            CHECK.due("deliveredAt in state " + i, x.deliveredAt(p, 0), i == 0 ? 0 : -1);
            CHECK.due("verdict in state " + i, x.verdict(p, 0), i == 0 ? 1 : 0);
            CHECK.due("suspects in state " + i, x.suspects(p, 2), true);
        }
    }

    /** Three processes of which 0, or 1 for AWAIT and SPENT, is in this state. */
    private static CouncilSequence standing(int state) {
        switch (state) {
            case OUT:
                return CouncilRuns.decided(3);
            case COUNT:
                return CouncilRuns.offered(3);
            case SPENT:
                return CouncilRuns.spentButOne();
            default:
                return CouncilRuns.opened(3);
        }
    }
}
