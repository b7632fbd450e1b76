/** How a process goes on, (a) to (f), and how it enters a round. */
public final class GoesOnTest {
    private static final Check CHECK = new Check("GoesOnTest");

    public static void main(String[] args) {
        verdictsOutOfOrder();
        verdictEndsAnyState();
        risingOrder();
        opensCouncilWithUndelivered();
        gatherWaitsForMajority();
        greatestStamp();
        leastProcess();
        keptLettersServeLater();
        offerBeforeSuspicion();
        offerOfAnotherRound();
        suspicionOfLeader();
        countAllYes();
        countOneNo();
        noVotesBeforeOffer();
        votesOfAnotherRound();
        leaderChanges();
        agreedAfterCrash();
        CHECK.end();
    }

    private static void verdictsOutOfOrder() {
        CHECK.begin("(a), verdicts out of order");
        CouncilSequence x = CouncilRuns.secondCouncil();
        Letters.bring(x, 1, 0, Letters.estimate(1, 1, 6, 0));
        Letters.bring(x, 0, 1, Letters.offer(1, 1, 6));
        Letters.bring(x, 1, 0, Letters.vote(1, 1, 1));
        Letters.bring(x, 0, 2, Letters.verdict(1, 6));
        CHECK.due("finished(2)", x.finished(2), 0);
        CHECK.due("delivered(2)", x.delivered(2), 0);
        CHECK.due("it tells at once", Letters.all(x, 2, 1), Letters.row(Letters.verdict(1, 6)));
        Letters.bring(x, 0, 2, Letters.verdict(0, 1));
        CHECK.due("finished(2)", x.finished(2), 2);
        CHECK.due("deliveredAt(2, 0)", x.deliveredAt(2, 0), 0);
        CHECK.due("deliveredAt(2, 1)", x.deliveredAt(2, 1), 1);
        CHECK.due("deliveredAt(2, 2)", x.deliveredAt(2, 2), 2);
    }

    private static void verdictEndsAnyState() {
        CHECK.begin("(a), in any state");
        CouncilSequence x = new CouncilSequence(5);
        x.broadcast(0);
        for (int p = 1; p < 5; p++) {
            x.deliver(0, p, 0);
        }
        // Process 1 becomes a leader that gathers, 2 one that counts, 3 awaits.
        for (int p = 1; p < 3; p++) {
            Letters.bring(x, p, 0, Letters.estimate(0, 1, 1, 0));
        }
        for (int p = 1; p < 5; p++) {
            Letters.bring(x, 0, p, Letters.offer(0, 1, 1));
        }
        for (int p = 2; p < 5; p++) {
            x.suspect(p, 1, true);
        }
        Letters.bring(x, 3, 2, Letters.estimate(0, 3, 1, 1));
        Letters.bring(x, 4, 2, Letters.estimate(0, 3, 1, 1));
        CHECK.due("state(1)", x.state(1), 1);
        CHECK.due("state(2)", x.state(2), 3);
        CHECK.due("state(3)", x.state(3), 2);
        Letters.bring(x, 1, 0, Letters.vote(0, 1, 1));
        CHECK.due("state(0), two votes of five", x.state(0), 3);
        Letters.bring(x, 2, 0, Letters.vote(0, 1, 1));
        CHECK.due("finished(0)", x.finished(0), 1);
        for (int p = 1; p < 4; p++) {
            CHECK.due("VERDICT to " + p, Letters.bring(x, 0, p, Letters.verdict(0, 1)), 5);
            CHECK.due("state", x.state(p), 0);
            CHECK.due("finished", x.finished(p), 1);
            CHECK.due("round", x.round(p), 0);
            CHECK.due("estimate", x.estimate(p), 0);
            CHECK.due("stamp", x.stamp(p), 0);
        }
        CHECK.due("finished(4)", x.finished(4), 0);
    }

    private static void risingOrder() {
        CHECK.begin("(a), rising order");
        CouncilSequence x = new CouncilSequence(3);
        for (int m = 0; m < 4; m++) {
            x.broadcast(m == 2 ? 0 : 2);
        }
        // Process 0 opens with {2} and leads; what it learns later waits for council 1.
        CHECK.due("estimate(0)", x.estimate(0), 4);
        Letters.bring(x, 2, 0, Letters.news(3));
        Letters.bring(x, 2, 0, Letters.news(1));
        Letters.bring(x, 2, 0, Letters.news(0));
        Letters.bring(x, 2, 0, Letters.estimate(0, 1, 1, 0));
        Letters.bring(x, 0, 2, Letters.offer(0, 1, 4));
        Letters.bring(x, 2, 0, Letters.vote(0, 1, 1));
        CHECK.due("council 1", x.estimate(0), 1 + 2 + 8);
        Letters.bring(x, 0, 2, Letters.verdict(0, 4));
        Letters.bring(x, 2, 0, Letters.estimate(1, 1, 11, 0));
        Letters.bring(x, 0, 2, Letters.offer(1, 1, 11));
        Letters.bring(x, 2, 0, Letters.vote(1, 1, 1));
        int[] order = {2, 0, 1, 3};
        for (int i = 0; i < 4; i++) {
            CHECK.due("deliveredAt(0, " + i + ")", x.deliveredAt(0, i), order[i]);
        }
    }

    private static void opensCouncilWithUndelivered() {
        CHECK.begin("(b)");
        CouncilSequence x = CouncilRuns.secondCouncil();
        CHECK.due("finished(1)", x.finished(1), 1);
        CHECK.due("estimate(1)", x.estimate(1), 6);
        CHECK.due("stamp(1)", x.stamp(1), 0);
        CHECK.due("round(1)", x.round(1), 1);
        Letters.bring(x, 0, 2, Letters.news(2));
        CHECK.due("estimate(2)", x.estimate(2), 4);
        CHECK.due("finished(2)", x.finished(2), 0);
        CHECK.due("ESTIMATE of council 0", Letters.all(x, 2, 0),
            Letters.row(Letters.news(2), Letters.estimate(0, 1, 4, 0)));
        Letters.bring(x, 0, 2, Letters.verdict(0, 1));
        CHECK.due("finished(2)", x.finished(2), 1);
        CHECK.due("estimate(2)", x.estimate(2), 4);
        CHECK.due("ESTIMATE of council 1", Letters.all(x, 2, 0),
            Letters.row(Letters.news(2), Letters.estimate(0, 1, 4, 0), Letters.verdict(0, 1), Letters.estimate(1, 1, 4, 0)));
    }

    private static void gatherWaitsForMajority() {
        CHECK.begin("(c), a majority");
        for (int n = 3; n <= 5; n++) {
            CouncilSequence x = new CouncilSequence(n);
            x.broadcast(0);
            for (int p = 1; p < n; p++) {
                CHECK.due("estimates of " + p + " in " + n, x.state(0), p < n / 2 + 1 ? 1 : 3);
                x.deliver(0, p, 0);
                Letters.bring(x, p, 0, Letters.estimate(0, 1, 1, 0));
            }
            for (int p = 1; p < n; p++) {
                CHECK.due("OFFER to " + p, Letters.all(x, 0, p), Letters.row(Letters.offer(0, 1, 1)));
            }
            CHECK.due("stamp(0)", x.stamp(0), 1);
            CHECK.due("round(0)", x.round(0), 1);
        }
    }

    private static void greatestStamp() {
        CHECK.begin("(c), the greatest stamp");
        CouncilSequence x = new CouncilSequence(3);
        x.broadcast(0);
        x.broadcast(1);
        x.broadcast(2);
        Letters.bring(x, 1, 0, Letters.estimate(0, 1, 2, 0));
        Letters.bring(x, 0, 2, Letters.offer(0, 1, 1));
        x.suspect(1, 0, true);
        CHECK.due("own estimate", x.estimate(1), 2);
        Letters.bring(x, 2, 1, Letters.estimate(0, 2, 1, 1));
        CHECK.due("estimate(1)", x.estimate(1), 1);
        CHECK.due("stamp(1)", x.stamp(1), 2);
        CHECK.due("OFFER", x.letter(1, 2, 1), Letters.offer(0, 2, 1));
        CHECK.due("NEWS first", x.letter(1, 2, 0), Letters.news(1));
    }

    private static void leastProcess() {
        CHECK.begin("(c), the least process");
        CouncilSequence x = new CouncilSequence(5);
        for (int p = 0; p < 5; p++) {
            x.broadcast(p);
        }
        // 4 and 3 go to round 2 without any offer; there the leader 1 has stamp 0 like them.
        for (int p = 4; p > 0; p--) {
            x.suspect(p, 0, true);
        }
        Letters.bring(x, 4, 1, Letters.estimate(0, 2, 16, 0));
        CHECK.due("state(1)", x.state(1), 1);
        Letters.bring(x, 2, 1, Letters.estimate(0, 2, 4, 0));
        CHECK.due("state(1)", x.state(1), 3);
        CHECK.due("estimate(1)", x.estimate(1), 2);
        CHECK.due("stamp(1)", x.stamp(1), 2);
    }

    private static void keptLettersServeLater() {
        CHECK.begin("letters kept for a later council");
        CouncilSequence x = CouncilRuns.secondCouncil();
        Letters.bring(x, 1, 0, Letters.estimate(1, 1, 6, 0));
        CHECK.due("OFFER of council 1", Letters.bring(x, 0, 2, Letters.offer(1, 1, 6)), 3);
        CHECK.due("state(2)", x.state(2), 0);
        CHECK.due("estimate(2)", x.estimate(2), 0);
        Letters.bring(x, 0, 2, Letters.news(1));
        CHECK.due("not for council 0", x.round(2), 1);
        CHECK.due("stamp(2)", x.stamp(2), 0);
        Letters.bring(x, 0, 2, Letters.verdict(0, 1));
        CHECK.due("finished(2)", x.finished(2), 1);
        CHECK.due("round(2)", x.round(2), 2);
        CHECK.due("estimate(2)", x.estimate(2), 6);
        CHECK.due("stamp(2)", x.stamp(2), 1);
        CHECK.due("VOTE", Letters.bring(x, 2, 0, Letters.vote(1, 1, 1)), 4);
        CHECK.due("finished(0)", x.finished(0), 2);
    }

    private static void offerBeforeSuspicion() {
        CHECK.begin("(d) before (e)");
        CouncilSequence x = new CouncilSequence(3);
        x.broadcast(0);
        x.deliver(0, 1, 0);
        Letters.bring(x, 1, 0, Letters.estimate(0, 1, 1, 0));
        x.suspect(2, 0, true);
        CHECK.due("OFFER to one that is OUT", x.deliver(0, 2, 1), 3);
        CHECK.due("state(2)", x.state(2), 0);
        CHECK.due("NEWS", x.deliver(0, 2, 0), 1);
        CHECK.due("2 to 0", Letters.all(x, 2, 0),
            Letters.row(Letters.news(0), Letters.estimate(0, 1, 1, 0), Letters.vote(0, 1, 1)));
        CHECK.due("2 to 1", Letters.all(x, 2, 1), Letters.row(Letters.news(0), Letters.estimate(0, 2, 1, 1)));
        CHECK.due("round(2)", x.round(2), 2);
        CHECK.due("stamp(2)", x.stamp(2), 1);
    }

    private static void offerOfAnotherRound() {
        CHECK.begin("(d), of its round alone");
        CouncilSequence x = new CouncilSequence(3);
        x.broadcast(0);
        x.deliver(0, 1, 0);
        x.deliver(0, 2, 0);
        Letters.bring(x, 1, 0, Letters.estimate(0, 1, 1, 0));
        x.suspect(2, 0, true);
        CHECK.due("round(2)", x.round(2), 2);
        CHECK.due("OFFER too late", Letters.bring(x, 0, 2, Letters.offer(0, 1, 1)), 3);
        CHECK.due("round(2)", x.round(2), 2);
        CHECK.due("stamp(2)", x.stamp(2), 0);
        CHECK.due("2 to 0", Letters.all(x, 2, 0),
            Letters.row(Letters.news(0), Letters.estimate(0, 1, 1, 0), Letters.vote(0, 1, 0)));
    }

    private static void suspicionOfLeader() {
        CHECK.begin("(e)");
        CouncilSequence x = new CouncilSequence(4);
        x.broadcast(3);
        x.suspect(3, 2, true);
        CHECK.due("not of another", x.round(3), 1);
        x.suspect(3, 0, true);
        CHECK.due("round(3)", x.round(3), 2);
        CHECK.due("state(3)", x.state(3), 2);
        x.suspect(3, 1, true);
        CHECK.due("round(3)", x.round(3), 4);
        CHECK.due("state(3)", x.state(3), 1);
        CHECK.due("3 to 2", Letters.all(x, 3, 2),
            Letters.row(Letters.news(0), Letters.estimate(0, 3, 1, 0), Letters.vote(0, 3, 0)));
        x.broadcast(0);
        x.suspect(0, 1, true);
        CHECK.due("a leader suspects nobody in its round", x.state(0), 1);
    }

    private static void countAllYes() {
        CHECK.begin("(f), all yes");
        for (int n = 3; n <= 5; n++) {
            CouncilSequence x = offered(n);
            for (int p = 1; p < n / 2 + 1; p++) {
                CHECK.due("votes of " + p + " in " + n, x.state(0), 3);
                Letters.bring(x, 0, p, Letters.offer(0, 1, 1));
                Letters.bring(x, p, 0, Letters.vote(0, 1, 1));
            }
            CHECK.due("state(0)", x.state(0), 0);
            CHECK.due("verdict(0, 0)", x.verdict(0, 0), 1);
            for (int p = 1; p < n; p++) {
                CHECK.due("VERDICT to " + p, x.letter(0, p, x.letters(0, p) - 1), Letters.verdict(0, 1));
            }
        }
    }

    private static void countOneNo() {
        CHECK.begin("(f), one no");
        CouncilSequence x = offered(5);
        x.suspect(3, 0, true);
        Letters.bring(x, 3, 0, Letters.vote(0, 1, 0));
        CHECK.due("no majority yet", x.state(0), 3);
        CHECK.due("round(0)", x.round(0), 1);
        Letters.bring(x, 0, 1, Letters.offer(0, 1, 1));
        Letters.bring(x, 1, 0, Letters.vote(0, 1, 1));
        CHECK.due("round(0)", x.round(0), 2);
        CHECK.due("state(0)", x.state(0), 2);
        CHECK.due("verdict(0, 0)", x.verdict(0, 0), 0);
        CHECK.due("ESTIMATE", x.letter(0, 1, x.letters(0, 1) - 1), Letters.estimate(0, 2, 1, 1));
        Letters.bring(x, 0, 2, Letters.offer(0, 1, 1));
        Letters.bring(x, 2, 0, Letters.vote(0, 1, 1));
        CHECK.due("a late yes", x.round(0), 2);
    }

    private static void noVotesBeforeOffer() {
        CHECK.begin("(b), (c), (f) in one call");
        CouncilSequence x = new CouncilSequence(3);
        x.suspect(1, 0, true);
        x.broadcast(1);
        CHECK.due("VOTE", Letters.bring(x, 1, 0, Letters.vote(0, 1, 0)), 4);
        CHECK.due("ESTIMATE", Letters.bring(x, 1, 0, Letters.estimate(0, 1, 1, 0)), 2);
        CHECK.due("state(0)", x.state(0), 0);
        CHECK.due("NEWS", x.deliver(1, 0, 0), 1);
        CHECK.due("round(0)", x.round(0), 2);
        CHECK.due("state(0)", x.state(0), 2);
        CHECK.due("stamp(0)", x.stamp(0), 1);
        CHECK.due("0 to 1", Letters.all(x, 0, 1),
            Letters.row(Letters.news(0), Letters.offer(0, 1, 1), Letters.estimate(0, 2, 1, 1)));
        CHECK.due("0 to 2", Letters.all(x, 0, 2), Letters.row(Letters.news(0), Letters.offer(0, 1, 1)));
    }

    private static void votesOfAnotherRound() {
        CHECK.begin("(f), of its round alone");
        CouncilSequence x = CouncilRuns.secondCouncil();
        Letters.bring(x, 1, 0, Letters.estimate(1, 1, 6, 0));
        CHECK.due("state(0)", x.state(0), 3);
        Letters.bring(x, 0, 2, Letters.news(0));
        Letters.bring(x, 0, 2, Letters.offer(0, 1, 1));
        CHECK.due("a vote of council 0", Letters.bring(x, 2, 0, Letters.vote(0, 1, 1)), 4);
        CHECK.due("state(0)", x.state(0), 3);
        CHECK.due("finished(0)", x.finished(0), 1);
    }

    private static void leaderChanges() {
        CHECK.begin("leaders");
        CouncilSequence x = CouncilRuns.spentButOne();
        CHECK.due("leader of round 10 of 3", x.state(0), 3);
        CouncilSequence y = new CouncilSequence(4);
        for (int q = 0; q < 3; q++) {
            y.suspect(3, q, true);
        }
        y.broadcast(3);
        CHECK.due("leader of round 4 of 4", y.round(3), 4);
        CHECK.due("leader of round 4 of 4", y.state(3), 1);
    }

    /** The leader crashes with its verdict unsent; the others must come to the same one. */
    private static void agreedAfterCrash() {
        CHECK.begin("one order in spite of a crash");
        CouncilSequence x = new CouncilSequence(3);
        x.broadcast(0);
        x.broadcast(1);
        x.broadcast(2);
        Letters.bring(x, 1, 0, Letters.estimate(0, 1, 2, 0));
        Letters.bring(x, 0, 2, Letters.offer(0, 1, 1));
        Letters.bring(x, 2, 0, Letters.vote(0, 1, 1));
        CHECK.due("deliveredAt(0, 0)", x.deliveredAt(0, 0), 0);
        CHECK.due("crash", x.crash(0, 20), true);
        CHECK.due("letters(0, 1)", x.letters(0, 1), 0);
        x.suspect(1, 0, true);
        x.suspect(2, 0, true);
        CouncilRuns.bringAll(x, 3);
        for (int p = 1; p < 3; p++) {
            CHECK.due("verdict(" + p + ", 0)", x.verdict(p, 0), 1);
            CHECK.due("delivered(" + p + ")", x.delivered(p), 3);
            CHECK.due("deliveredAt(" + p + ", 0)", x.deliveredAt(p, 0), 0);
        }
    }

    /** All know message 0, and 0 has made its offer in round 1; NEWS that would come back is left. */
    private static CouncilSequence offered(int n) {
        CouncilSequence x = new CouncilSequence(n);
        x.broadcast(0);
        for (int p = 1; p < n; p++) {
            x.deliver(0, p, 0);
        }
        for (int p = 1; p < n; p++) {
            Letters.bring(x, p, 0, Letters.estimate(0, 1, 1, 0));
        }
        return x;
    }
}
