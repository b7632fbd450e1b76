/**
 * What "Terms" says of letters that are kept, of the steps (a) to (f) and of entering a round: each
 * bound, each order and each end with a test of its own. Each part is called by the sentence.
 */
public final class StepsEdgesTest {
    private static final int OUT = 0;
    private static final int GATHER = 1;
    private static final int AWAIT = 2;
    private static final int COUNT = 3;
    private static final int SPENT = 4;
    private static final String KEEPS =
        "ESTIMATE, OFFER, VOTE: it keeps the letter (whatever council and round it is in).";
    private static final String FIRST =
        "as long as one of these holds, it does what the first one that holds says";
    private static final String STEP_A =
        "(a) It has a verdict of the council that it is in: it delivers all messages of that batch that it has not yet"
        + " delivered, in rising order; it has finished one council more, and is OUT.";
    private static final String STEP_B =
        "(b) It is OUT, and knows messages that it has not delivered: the set of these becomes its estimate, its stamp"
        + " is 0, and it enters round 1.";
    private static final String STEP_C =
        "(c) It is in GATHER, and has ESTIMATES of its council and round from at least a majority of the processes (its"
        + " own counts)";
    private static final String CHOICE =
        "of those that it has, it takes the one with the greatest stamp, of several with that stamp the one from the"
        + " process with the least number.";
    private static final String STEP_D = "(d) It is in AWAIT, and has an OFFER of its council and round";
    private static final String STEP_E = "(e) It is in AWAIT, and suspects the leader of its round";
    private static final String STEP_F =
        "(f) It is in COUNT, and has VOTES of its council and round from at least a majority of the processes (its own"
        + " counts)";
    private static final String ALL_YES =
        "if all that it has are yes, it has from then on the verdict of its council with its estimate as the batch";
    private static final String ENTERS = "To ENTER round r: if r is 11, it is SPENT.";
    private static final Check CHECK = new Check("StepsEdgesTest");

    public static void main(String[] args) {
        keepsEstimateWhenOut();
        keepsOfferWhenOut();
        keepsVoteWhenOut();
        keepsVoteInGather();
        keepsEstimateOfLaterRound();
        keepsOfferOfLaterRound();
        keepsLettersOfLaterCouncil();
        lettersOfEarlierCouncil();
        lettersOfEarlierRound();
        keepsWhenSpent();
        firstThatHolds();
        verdictInEachState();
        verdictsOfManyCouncils();
        verdictInRisingOrder();
        nothingUndelivered();
        someUndelivered();
        learnsWhileNotOut();
        oneEstimateTooFew();
        greatestStamp();
        greatestStampOfTen();
        leastNumber();
        moreThanMajority();
        lateEstimate();
        offerOfItsCouncilAndRound();
        offersOfTwoRounds();
        suspectsLeaderOnly();
        suspectsAllOthers();
        suspicionOfLeaderItself();
        oneVoteTooFew();
        oneNo();
        noBeyondMajority();
        noOfEach();
        votesOfOtherRounds();
        spentByOffer();
        spentBySuspicion();
        spentByVotes();
        spentStays();
        entersAsLeader();
        entersAsAnother();
        CHECK.end();
    }

    private static void where(CouncilSequence x, int p, int state, int round, int estimate, int stamp) {
        CHECK.due("state(" + p + ")", x.state(p), state);
        CHECK.due("round(" + p + ")", x.round(p), round);
        CHECK.due("estimate(" + p + ")", x.estimate(p), estimate);
        CHECK.due("stamp(" + p + ")", x.stamp(p), stamp);
    }

    /** Each process has made a message of its own and has it as its estimate. */
    private static CouncilSequence eachItsOwn(int n) {
        CouncilSequence x = new CouncilSequence(n);
        for (int p = 0; p < n; p++) {
            x.broadcast(p);
        }
        return x;
    }

    private static void keepsEstimateWhenOut() {
        CHECK.begin(KEEPS, "ESTIMATE to one that is OUT");
        CouncilSequence x = new CouncilSequence(3);
        x.broadcast(1);
        CHECK.due("ESTIMATE", x.deliver(1, 0, 1), 2);
        where(x, 0, OUT, 0, 0, 0);
        CHECK.due("NEWS", x.deliver(1, 0, 0), 1);
        where(x, 0, COUNT, 1, 1, 1);
        CHECK.due("0 to 2", Letters.all(x, 0, 2), Letters.row(Letters.news(0), Letters.offer(0, 1, 1)));
    }

    private static void keepsOfferWhenOut() {
        CHECK.begin(KEEPS, "OFFER to one that is OUT");
        CouncilSequence x = new CouncilSequence(3);
        x.broadcast(0);
        x.deliver(0, 1, 0);
        x.deliver(1, 0, 1);
        CHECK.due("OFFER", x.deliver(0, 2, 1), 3);
        where(x, 2, OUT, 0, 0, 0);
        CHECK.due("nothing sent", x.letters(2, 0), 0);
        CHECK.due("NEWS", x.deliver(0, 2, 0), 1);
        where(x, 2, AWAIT, 2, 1, 1);
        CHECK.due("2 to 0", Letters.all(x, 2, 0),
            Letters.row(Letters.news(0), Letters.estimate(0, 1, 1, 0), Letters.vote(0, 1, 1)));
    }

    private static void keepsVoteWhenOut() {
        CHECK.begin(KEEPS, "VOTE to one that is OUT");
        CouncilSequence x = new CouncilSequence(3);
        x.suspect(1, 0, true);
        x.broadcast(1);
        CHECK.due("VOTE", x.deliver(1, 0, 2), 4);
        where(x, 0, OUT, 0, 0, 0);
        CHECK.due("NEWS", x.deliver(1, 0, 0), 1);
        where(x, 0, GATHER, 1, 1, 0);
        CHECK.due("ESTIMATE", x.deliver(1, 0, 0), 2);
        where(x, 0, AWAIT, 2, 1, 1);
    }

    private static void keepsVoteInGather() {
        CHECK.begin(KEEPS, "VOTE to one that gathers");
        CouncilSequence x = CouncilRuns.opened(3);
        x.suspect(2, 0, true);
        CHECK.due("VOTE", Letters.bring(x, 2, 0, Letters.vote(0, 1, 0)), 4);
        where(x, 0, GATHER, 1, 1, 0);
        CHECK.due("ESTIMATE", Letters.bring(x, 1, 0, Letters.estimate(0, 1, 1, 0)), 2);
        where(x, 0, AWAIT, 2, 1, 1);
        CHECK.due("0 to 2", Letters.all(x, 0, 2), Letters.row(Letters.offer(0, 1, 1)));
        CHECK.due("0 to 1", Letters.all(x, 0, 1),
            Letters.row(Letters.offer(0, 1, 1), Letters.estimate(0, 2, 1, 1)));
    }

    private static void keepsEstimateOfLaterRound() {
        CHECK.begin(KEEPS, "ESTIMATE of a later round");
        CouncilSequence x = CouncilRuns.opened(3);
        x.suspect(2, 0, true);
        CHECK.due("ESTIMATE", Letters.bring(x, 2, 1, Letters.estimate(0, 2, 1, 0)), 2);
        where(x, 1, AWAIT, 1, 1, 0);
        x.suspect(1, 0, true);
        where(x, 1, COUNT, 2, 1, 2);
        CHECK.due("OFFER", x.letter(1, 2, x.letters(1, 2) - 1), Letters.offer(0, 2, 1));
    }

    /** Process 0 failed in round 1, 1 has made its offer in round 2; 2 awaits in round 1, with both offers on the way. */
    private static CouncilSequence twoOffers() {
        CouncilSequence x = CouncilRuns.opened(3);
        x.suspect(1, 0, true);
        Letters.bring(x, 1, 0, Letters.estimate(0, 1, 1, 0));
        Letters.bring(x, 1, 0, Letters.vote(0, 1, 0));
        Letters.bring(x, 0, 1, Letters.estimate(0, 2, 1, 1));
        return x;
    }

    private static void keepsOfferOfLaterRound() {
        CHECK.begin(KEEPS, "OFFER of a later round");
        CouncilSequence x = twoOffers();
        CHECK.due("OFFER", Letters.bring(x, 1, 2, Letters.offer(0, 2, 1)), 3);
        where(x, 2, AWAIT, 1, 1, 0);
        x.suspect(2, 0, true);
        where(x, 2, GATHER, 3, 1, 2);
        CHECK.due("2 to 0", x.letter(2, 0, x.letters(2, 0) - 1), Letters.vote(0, 1, 0));
        CHECK.due("2 to 1", Letters.all(x, 2, 1),
            Letters.row(Letters.news(0), Letters.estimate(0, 2, 1, 0), Letters.vote(0, 2, 1)));
    }

    private static void keepsLettersOfLaterCouncil() {
        CHECK.begin(KEEPS, "of a later council");
        CouncilSequence x = CouncilRuns.opened(3);
        x.suspect(1, 0, true);
        x.suspect(2, 0, true);
        Letters.bring(x, 2, 1, Letters.estimate(0, 2, 1, 0));
        Letters.bring(x, 1, 2, Letters.offer(0, 2, 1));
        Letters.bring(x, 2, 1, Letters.vote(0, 2, 1));
        x.broadcast(1);
        CHECK.due("finished(1)", x.finished(1), 1);
        CHECK.due("ESTIMATE", Letters.bring(x, 1, 0, Letters.estimate(1, 1, 2, 0)), 2);
        CHECK.due("VOTE", Letters.bring(x, 1, 0, Letters.vote(1, 1, 0)), 4);
        CHECK.due("NEWS", Letters.bring(x, 1, 0, Letters.news(1)), 1);
        where(x, 0, GATHER, 1, 1, 0);
        CHECK.due("VERDICT", Letters.bring(x, 1, 0, Letters.verdict(0, 1)), 5);
        CHECK.due("finished(0)", x.finished(0), 1);
        where(x, 0, AWAIT, 2, 2, 1);
        CHECK.due("0 to 2", Letters.all(x, 0, 2),
            Letters.row(Letters.news(1), Letters.verdict(0, 1), Letters.offer(1, 1, 2)));

        CouncilSequence y = CouncilRuns.secondCouncil();
        Letters.bring(y, 1, 0, Letters.estimate(1, 1, 6, 0));
        Letters.bring(y, 0, 2, Letters.news(1));
        CHECK.due("OFFER", Letters.bring(y, 0, 2, Letters.offer(1, 1, 6)), 3);
        where(y, 2, AWAIT, 1, 2, 0);
        CHECK.due("VERDICT", Letters.bring(y, 0, 2, Letters.verdict(0, 1)), 5);
        where(y, 2, AWAIT, 2, 6, 1);
    }

    private static void lettersOfEarlierCouncil() {
        CHECK.begin(KEEPS, "of an earlier council");
        CouncilSequence x = CouncilRuns.secondCouncil();
        Letters.bring(x, 0, 2, Letters.news(0));
        CHECK.due("ESTIMATE", Letters.bring(x, 2, 0, Letters.estimate(0, 1, 1, 0)), 2);
        where(x, 0, GATHER, 1, 6, 0);
        Letters.bring(x, 0, 2, Letters.offer(0, 1, 1));
        CHECK.due("ESTIMATE", Letters.bring(x, 1, 0, Letters.estimate(1, 1, 6, 0)), 2);
        CHECK.due("VOTE", Letters.bring(x, 2, 0, Letters.vote(0, 1, 1)), 4);
        where(x, 0, COUNT, 1, 6, 1);

        CouncilSequence y = CouncilRuns.secondCouncil();
        Letters.bring(y, 0, 2, Letters.verdict(0, 1));
        Letters.bring(y, 0, 2, Letters.news(1));
        CHECK.due("OFFER", Letters.bring(y, 0, 2, Letters.offer(0, 1, 1)), 3);
        where(y, 2, AWAIT, 1, 2, 0);
    }

    private static void lettersOfEarlierRound() {
        CHECK.begin(KEEPS, "of an earlier round");
        CouncilSequence x = twoOffers();
        x.suspect(2, 0, true);
        CHECK.due("ESTIMATE", Letters.bring(x, 2, 0, Letters.estimate(0, 1, 1, 0)), 2);
        CHECK.due("VOTE", Letters.bring(x, 2, 0, Letters.vote(0, 1, 0)), 4);
        where(x, 0, AWAIT, 2, 1, 1);
        CHECK.due("OFFER", Letters.bring(x, 0, 2, Letters.offer(0, 1, 1)), 3);
        where(x, 2, AWAIT, 2, 1, 0);
    }

    private static void keepsWhenSpent() {
        CHECK.begin(KEEPS, "SPENT");
        CouncilSequence x = CouncilRuns.failed(3, 10);
        CHECK.due("ESTIMATE", Letters.bring(x, 2, 0, 2, 0, 10), 2);
        CHECK.due("VOTE", Letters.bring(x, 2, 0, 4, 0, 10), 4);
        where(x, 0, SPENT, 11, 1, 10);
        CHECK.due("OFFER", Letters.bring(x, 0, 1, Letters.offer(0, 10, 1)), 3);
        where(x, 1, SPENT, 11, 1, 8);
    }

    private static void firstThatHolds() {
        CHECK.begin(FIRST, "(a) before (d), (d) before (e)");
        // An offer of its round is there and its leader is suspected: (d), not (e).
        CouncilSequence x = new CouncilSequence(3);
        x.suspect(2, 0, true);
        x.broadcast(0);
        x.deliver(0, 1, 0);
        x.deliver(1, 0, 1);
        x.deliver(0, 2, 1);
        x.deliver(0, 2, 0);
        CHECK.due("2 to 0", x.letter(2, 0, x.letters(2, 0) - 1), Letters.vote(0, 1, 1));
        where(x, 2, AWAIT, 2, 1, 1);
        // The verdict ends the council before any offer or suspicion in it counts: (a), not (d) or (e).
        CouncilSequence y = CouncilRuns.secondCouncil();
        Letters.bring(y, 0, 2, Letters.verdict(0, 1));
        y.suspect(2, 0, true);
        CHECK.due("OFFER of council 0", Letters.bring(y, 0, 2, Letters.offer(0, 1, 1)), 3);
        CHECK.due("no vote", Letters.all(y, 2, 0), Letters.row(Letters.verdict(0, 1)));
    }

    private static void verdictInEachState() {
        CHECK.begin(STEP_A, "in each state");
        CouncilSequence out = CouncilRuns.secondCouncil();
        endedBy(out, 2, OUT, Letters.bring(out, 0, 2, Letters.verdict(0, 1)));

        CouncilSequence gather = CouncilRuns.decided(3);
        CHECK.due("1 gathers", gather.state(1), GATHER);
        endedBy(gather, 1, GATHER, Letters.bring(gather, 0, 1, Letters.verdict(0, 1)));

        CouncilSequence await = CouncilRuns.decided(3);
        CHECK.due("2 awaits", await.state(2), AWAIT);
        endedBy(await, 2, AWAIT, Letters.bring(await, 0, 2, Letters.verdict(0, 1)));

        CouncilSequence count = CouncilRuns.decided(3);
        count.suspect(2, 0, true);
        Letters.bring(count, 2, 1, Letters.estimate(0, 2, 1, 0));
        CHECK.due("1 counts", count.state(1), COUNT);
        endedBy(count, 1, COUNT, Letters.bring(count, 0, 1, Letters.verdict(0, 1)));

        CouncilSequence spent = CouncilRuns.spentButOne();
        Letters.bring(spent, 1, 0, Letters.vote(0, 10, 1));
        CHECK.due("1 is SPENT", spent.state(1), SPENT);
        endedBy(spent, 1, SPENT, Letters.bring(spent, 0, 1, Letters.verdict(0, 1)));
    }

    private static void endedBy(CouncilSequence x, int p, int state, int kind) {
        CHECK.due("VERDICT in state " + state, kind, 5);
        where(x, p, OUT, 0, 0, 0);
        CHECK.due("finished in state " + state, x.finished(p), 1);
        CHECK.due("delivered in state " + state, x.delivered(p), 1);
    }

    private static void verdictsOfManyCouncils() {
        CHECK.begin(STEP_A, "eight councils in one call");
        CouncilSequence x = new CouncilSequence(3);
        for (int council = 0; council < 8; council++) {
            x.broadcast(0);
            Letters.bring(x, 0, 1, Letters.news(council));
            Letters.bring(x, 1, 0, 2, council, 1);
            Letters.bring(x, 0, 1, 3, council, 1);
            Letters.bring(x, 1, 0, 4, council, 1);
            Letters.bring(x, 0, 1, 5, council, 0);
        }
        for (int council = 7; council > 0; council--) {
            CHECK.due("VERDICT of " + council, Letters.bring(x, 0, 2, Letters.verdict(council, 1 << council)), 5);
            CHECK.due("verdict", x.verdict(2, council), 1 << council);
            CHECK.due("finished(2)", x.finished(2), 0);
            CHECK.due("delivered(2)", x.delivered(2), 0);
        }
        CHECK.due("VERDICT of 0", Letters.bring(x, 0, 2, Letters.verdict(0, 1)), 5);
        CHECK.due("finished(2)", x.finished(2), 8);
        CHECK.due("delivered(2)", x.delivered(2), 8);
        for (int i = 0; i < 8; i++) {
            CHECK.due("deliveredAt(2, " + i + ")", x.deliveredAt(2, i), i);
        }
        CHECK.due("none of them known", x.known(2), 0);
        CHECK.due("NEWS of one", Letters.bring(x, 0, 2, Letters.news(7)), 1);
        where(x, 2, OUT, 0, 0, 0);
    }

    private static void verdictInRisingOrder() {
        CHECK.begin(STEP_A, "rising order");
        CouncilSequence x = new CouncilSequence(3);
        x.broadcast(2);
        x.broadcast(2);
        x.broadcast(0);
        x.broadcast(2);
        // 0 opens council 0 with {2}, and learns the others from the last to the first.
        Letters.bring(x, 2, 0, Letters.news(3));
        Letters.bring(x, 2, 0, Letters.news(1));
        Letters.bring(x, 2, 0, Letters.news(0));
        Letters.bring(x, 2, 0, 2, 0, 1);
        Letters.bring(x, 0, 2, Letters.offer(0, 1, 4));
        Letters.bring(x, 2, 0, Letters.vote(0, 1, 1));
        Letters.bring(x, 0, 2, Letters.verdict(0, 4));
        Letters.bring(x, 2, 0, 2, 1, 1);
        Letters.bring(x, 0, 2, Letters.offer(1, 1, 11));
        Letters.bring(x, 2, 0, Letters.vote(1, 1, 1));
        Letters.bring(x, 0, 1, Letters.verdict(0, 4));
        CHECK.due("VERDICT to one that knows none", Letters.bring(x, 0, 1, Letters.verdict(1, 11)), 5);
        int[] order = {2, 0, 1, 3};
        for (int i = 0; i < 4; i++) {
            CHECK.due("deliveredAt(0, " + i + ")", x.deliveredAt(0, i), order[i]);
            CHECK.due("deliveredAt(1, " + i + ")", x.deliveredAt(1, i), order[i]);
        }
    }

    private static void nothingUndelivered() {
        CHECK.begin(STEP_B, "there are none");
        CouncilSequence x = CouncilRuns.decided(3);
        CHECK.due("known(0)", x.known(0), 1);
        CHECK.due("delivered(0)", x.delivered(0), 1);
        where(x, 0, OUT, 0, 0, 0);
        x.suspect(0, 1, true);
        where(x, 0, OUT, 0, 0, 0);
        Letters.bring(x, 1, 0, Letters.news(0));
        where(x, 0, OUT, 0, 0, 0);
    }

    private static void someUndelivered() {
        CHECK.begin(STEP_B, "after a council");
        CouncilSequence x = new CouncilSequence(3);
        x.broadcast(0);
        x.broadcast(0);
        x.broadcast(1);
        x.deliver(0, 1, 0);
        x.deliver(0, 1, 0);
        x.deliver(1, 0, 1);
        Letters.bring(x, 0, 1, Letters.offer(0, 1, 1));
        where(x, 1, GATHER, 2, 1, 1);
        CHECK.due("VOTE", Letters.bring(x, 1, 0, Letters.vote(0, 1, 1)), 4);
        CHECK.due("known(0)", x.known(0), 3);
        where(x, 0, GATHER, 1, 2, 0);
        CHECK.due("VERDICT", Letters.bring(x, 0, 1, Letters.verdict(0, 1)), 5);
        CHECK.due("known(1)", x.known(1), 7);
        where(x, 1, AWAIT, 1, 6, 0);
        CHECK.due("ESTIMATE", x.letter(1, 0, x.letters(1, 0) - 1), Letters.estimate(1, 1, 6, 0));
    }

    private static void learnsWhileNotOut() {
        CHECK.begin(STEP_B, "not OUT");
        CouncilSequence x = CouncilRuns.opened(3);
        x.broadcast(0);
        where(x, 0, GATHER, 1, 1, 0);
        x.broadcast(1);
        where(x, 1, AWAIT, 1, 1, 0);
        CouncilSequence y = CouncilRuns.offered(3);
        y.broadcast(0);
        where(y, 0, COUNT, 1, 1, 1);
    }

    private static void oneEstimateTooFew() {
        CHECK.begin(STEP_C, "one too few, and enough");
        int[] needed = {0, 0, 0, 1, 2, 2};
        for (int n = 3; n <= 5; n++) {
            CouncilSequence x = CouncilRuns.opened(n);
            for (int i = 1; i <= needed[n]; i++) {
                where(x, 0, GATHER, 1, 1, 0);
                CHECK.due("no OFFER yet", x.letters(0, 1), 0);
                CHECK.due("ESTIMATE", Letters.bring(x, n - i, 0, Letters.estimate(0, 1, 1, 0)), 2);
            }
            where(x, 0, COUNT, 1, 1, 1);
            for (int p = 1; p < n; p++) {
                CHECK.due("OFFER to " + p, Letters.all(x, 0, p), Letters.row(Letters.offer(0, 1, 1)));
            }
        }
    }

    /** 0 has offered {0} in round 1, 4 has taken it, 1 to 3 have suspected 0: all in round 2, led by 1. */
    private static CouncilSequence mixedStamps() {
        CouncilSequence x = eachItsOwn(5);
        Letters.bring(x, 1, 0, Letters.estimate(0, 1, 2, 0));
        Letters.bring(x, 2, 0, Letters.estimate(0, 1, 4, 0));
        Letters.bring(x, 0, 4, Letters.offer(0, 1, 1));
        for (int p = 3; p > 0; p--) {
            x.suspect(p, 0, true);
        }
        return x;
    }

    private static void greatestStamp() {
        CHECK.begin(CHOICE, "the greatest stamp");
        CouncilSequence x = mixedStamps();
        CHECK.due("stamp 1", Letters.bring(x, 4, 1, Letters.estimate(0, 2, 1, 1)), 2);
        where(x, 1, GATHER, 2, 2, 0);
        CHECK.due("stamp 0", Letters.bring(x, 3, 1, Letters.estimate(0, 2, 8, 0)), 2);
        where(x, 1, COUNT, 2, 1, 2);
        CHECK.due("OFFER", x.letter(1, 2, x.letters(1, 2) - 1), Letters.offer(0, 2, 1));
    }

    private static void greatestStampOfTen() {
        CHECK.begin(CHOICE, "the greatest stamp, up to round 10");
        // Each leader gets the estimate of the next process alone, which led later and bears another batch.
        CouncilSequence x = eachItsOwn(3);
        CouncilRuns.suspectAll(x, 3);
        for (int round = 1; round <= 10; round++) {
            int leader = (round - 1) % 3;
            CHECK.due("ESTIMATE of round " + round, Letters.bring(x, round % 3, leader, 2, 0, round), 2);
            where(x, leader, COUNT, round, round % 2 == 1 ? 1 : 2, round);
            CHECK.due("VOTE of round " + round, Letters.bring(x, round % 3, leader, 4, 0, round), 4);
        }
    }

    private static void leastNumber() {
        CHECK.begin(CHOICE, "the least number");
        CouncilSequence x = mixedStamps();
        CHECK.due("from 3", Letters.bring(x, 3, 1, Letters.estimate(0, 2, 8, 0)), 2);
        CHECK.due("from 2", Letters.bring(x, 2, 1, Letters.estimate(0, 2, 4, 0)), 2);
        where(x, 1, COUNT, 2, 2, 2);

        CouncilSequence y = eachItsOwn(4);
        CHECK.due("from 3", Letters.bring(y, 3, 0, Letters.estimate(0, 1, 8, 0)), 2);
        CHECK.due("from 1", Letters.bring(y, 1, 0, Letters.estimate(0, 1, 2, 0)), 2);
        where(y, 0, COUNT, 1, 1, 1);
    }

    private static void moreThanMajority() {
        CHECK.begin(CHOICE, "of more than a majority");
        CouncilSequence x = eachItsOwn(5);
        Letters.bring(x, 2, 0, Letters.estimate(0, 1, 4, 0));
        Letters.bring(x, 3, 0, Letters.estimate(0, 1, 8, 0));
        Letters.bring(x, 0, 4, Letters.offer(0, 1, 1));
        x.suspect(2, 0, true);
        x.suspect(3, 0, true);
        Letters.bring(x, 2, 1, Letters.estimate(0, 2, 4, 0));
        Letters.bring(x, 3, 1, Letters.estimate(0, 2, 8, 0));
        Letters.bring(x, 4, 1, Letters.estimate(0, 2, 1, 1));
        where(x, 1, AWAIT, 1, 2, 0);
        x.suspect(1, 0, true);
        where(x, 1, COUNT, 2, 1, 2);
    }

    private static void lateEstimate() {
        CHECK.begin(STEP_C, "one that comes late");
        CouncilSequence x = mixedStamps();
        Letters.bring(x, 3, 1, Letters.estimate(0, 2, 8, 0));
        Letters.bring(x, 2, 1, Letters.estimate(0, 2, 4, 0));
        int sent = x.letters(1, 0);
        CHECK.due("with a greater stamp", Letters.bring(x, 4, 1, Letters.estimate(0, 2, 1, 1)), 2);
        where(x, 1, COUNT, 2, 2, 2);
        CHECK.due("no second OFFER", x.letters(1, 0), sent);
    }

    private static void offerOfItsCouncilAndRound() {
        CHECK.begin(STEP_D, "of a crashed leader");
        CouncilSequence x = eachItsOwn(3);
        Letters.bring(x, 1, 0, Letters.estimate(0, 1, 2, 0));
        x.crash(0, 0);
        where(x, 2, AWAIT, 1, 4, 0);
        CHECK.due("OFFER of a crashed leader", Letters.bring(x, 0, 2, Letters.offer(0, 1, 1)), 3);
        where(x, 2, AWAIT, 2, 1, 1);
        CHECK.due("VOTE", x.letter(2, 0, x.letters(2, 0) - 1), Letters.vote(0, 1, 1));
        CHECK.due("ESTIMATE", x.letter(2, 1, x.letters(2, 1) - 1), Letters.estimate(0, 2, 1, 1));
    }

    private static void offersOfTwoRounds() {
        CHECK.begin(FIRST, "two offers in one call");
        CouncilSequence x = twoOffers();
        Letters.bring(x, 1, 2, Letters.offer(0, 2, 1));
        where(x, 2, AWAIT, 1, 1, 0);
        CHECK.due("OFFER of round 1", Letters.bring(x, 0, 2, Letters.offer(0, 1, 1)), 3);
        where(x, 2, GATHER, 3, 1, 2);
        CHECK.due("2 to 0", x.letter(2, 0, x.letters(2, 0) - 1), Letters.vote(0, 1, 1));
        CHECK.due("2 to 1", Letters.all(x, 2, 1),
            Letters.row(Letters.news(0), Letters.estimate(0, 2, 1, 1), Letters.vote(0, 2, 1)));
    }

    private static void suspectsLeaderOnly() {
        CHECK.begin(STEP_E, "of its round alone");
        CouncilSequence x = CouncilRuns.opened(5);
        x.suspect(3, 1, true);
        x.suspect(3, 2, true);
        x.suspect(3, 4, true);
        where(x, 3, AWAIT, 1, 1, 0);
        x.suspect(3, 2, false);
        x.suspect(3, 0, true);
        where(x, 3, AWAIT, 3, 1, 0);
        CHECK.due("3 to 0", Letters.all(x, 3, 0),
            Letters.row(Letters.news(0), Letters.estimate(0, 1, 1, 0), Letters.vote(0, 1, 0)));
        CHECK.due("3 to 1", Letters.all(x, 3, 1),
            Letters.row(Letters.news(0), Letters.estimate(0, 2, 1, 0), Letters.vote(0, 2, 0)));
        CHECK.due("3 to 2", Letters.all(x, 3, 2),
            Letters.row(Letters.news(0), Letters.estimate(0, 3, 1, 0)));
    }

    private static void suspectsAllOthers() {
        CHECK.begin(STEP_E, "all others: to the round that it leads");
        for (int n = 3; n <= 5; n++) {
            CouncilSequence x = new CouncilSequence(n);
            CouncilRuns.suspectAll(x, n);
            for (int p = 0; p < n; p++) {
                x.broadcast(p);
                where(x, p, GATHER, p + 1, 1 << p, 0);
            }
            CouncilSequence y = CouncilRuns.failed(n, 1);
            where(y, 0, GATHER, n + 1, 1, 1);
        }
    }

    private static void suspicionOfLeaderItself() {
        CHECK.begin(STEP_E, "not in AWAIT");
        CouncilSequence x = CouncilRuns.opened(3);
        x.suspect(0, 1, true);
        x.suspect(0, 2, true);
        where(x, 0, GATHER, 1, 1, 0);
        Letters.bring(x, 1, 0, Letters.estimate(0, 1, 1, 0));
        x.suspect(0, 1, true);
        where(x, 0, COUNT, 1, 1, 1);
    }

    private static void oneVoteTooFew() {
        CHECK.begin(STEP_F, "one too few, and enough");
        int[] needed = {0, 0, 0, 1, 2, 2};
        for (int n = 3; n <= 5; n++) {
            CouncilSequence x = CouncilRuns.offered(n);
            for (int i = 1; i <= needed[n]; i++) {
                where(x, 0, COUNT, 1, 1, 1);
                CHECK.due("no verdict yet", x.verdict(0, 0), 0);
                CHECK.due("OFFER", Letters.bring(x, 0, n - i, Letters.offer(0, 1, 1)), 3);
                CHECK.due("VOTE", Letters.bring(x, n - i, 0, Letters.vote(0, 1, 1)), 4);
            }
            where(x, 0, OUT, 0, 0, 0);
            CHECK.due("verdict", x.verdict(0, 0), 1);
            CHECK.due("finished", x.finished(0), 1);
            for (int p = 1; p < n; p++) {
                CHECK.due("VERDICT to " + p, x.letter(0, p, x.letters(0, p) - 1), Letters.verdict(0, 1));
            }
        }
    }

    private static void oneNo() {
        CHECK.begin(ALL_YES, "the last is a no");
        for (int n = 3; n <= 5; n++) {
            CouncilSequence x = CouncilRuns.offered(n);
            for (int p = 1; p < n / 2; p++) {
                Letters.bring(x, 0, p, Letters.offer(0, 1, 1));
                Letters.bring(x, p, 0, Letters.vote(0, 1, 1));
            }
            x.suspect(n - 1, 0, true);
            where(x, 0, COUNT, 1, 1, 1);
            CHECK.due("one no", Letters.bring(x, n - 1, 0, Letters.vote(0, 1, 0)), 4);
            where(x, 0, AWAIT, 2, 1, 1);
            CHECK.due("verdict", x.verdict(0, 0), 0);
            CHECK.due("finished", x.finished(0), 0);
            Letters.bring(x, 0, n / 2, Letters.offer(0, 1, 1));
            CHECK.due("a yes that comes late", Letters.bring(x, n / 2, 0, Letters.vote(0, 1, 1)), 4);
            where(x, 0, AWAIT, 2, 1, 1);
        }
    }

    private static void noBeyondMajority() {
        CHECK.begin(ALL_YES, "the first is a no");
        CouncilSequence x = CouncilRuns.opened(5);
        x.suspect(4, 0, true);
        CHECK.due("no while it gathers", Letters.bring(x, 4, 0, Letters.vote(0, 1, 0)), 4);
        Letters.bring(x, 1, 0, Letters.estimate(0, 1, 1, 0));
        Letters.bring(x, 2, 0, Letters.estimate(0, 1, 1, 0));
        where(x, 0, COUNT, 1, 1, 1);
        Letters.bring(x, 0, 1, Letters.offer(0, 1, 1));
        CHECK.due("yes", Letters.bring(x, 1, 0, Letters.vote(0, 1, 1)), 4);
        where(x, 0, AWAIT, 2, 1, 1);
        CHECK.due("verdict", x.verdict(0, 0), 0);
    }

    private static void noOfEach() {
        CHECK.begin(ALL_YES, "a no of each, beside a yes of each");
        for (int no = 1; no < 5; no++) {
            for (int yes = 1; yes < 5; yes++) {
                if (no != yes) {
                    CouncilSequence x = CouncilRuns.offered(5);
                    x.suspect(no, 0, true);
                    CHECK.due("no of " + no, Letters.bring(x, no, 0, Letters.vote(0, 1, 0)), 4);
                    Letters.bring(x, 0, yes, Letters.offer(0, 1, 1));
                    where(x, 0, COUNT, 1, 1, 1);
                    CHECK.due("yes of " + yes, Letters.bring(x, yes, 0, Letters.vote(0, 1, 1)), 4);
                    where(x, 0, AWAIT, 2, 1, 1);
                }
            }
        }
    }

    private static void votesOfOtherRounds() {
        CHECK.begin(STEP_F, "not of other councils and rounds");
        // Council 0 has no votes in rounds 1 and 2, and ends in round 3; council 1 ends in round 1.
        CouncilSequence x = CouncilRuns.opened(3);
        CouncilRuns.suspectAll(x, 3);
        x.suspect(0, 2, false);
        CouncilRuns.failRound(x, 3, 0, 1);
        CouncilRuns.failRound(x, 3, 0, 2);
        where(x, 0, AWAIT, 3, 1, 1);
        where(x, 2, GATHER, 3, 1, 0);
        CHECK.due("ESTIMATE", Letters.bring(x, 0, 2, Letters.estimate(0, 3, 1, 1)), 2);
        CHECK.due("OFFER", Letters.bring(x, 2, 0, Letters.offer(0, 3, 1)), 3);
        CHECK.due("VOTE", Letters.bring(x, 0, 2, Letters.vote(0, 3, 1)), 4);
        CHECK.due("verdict(2, 0)", x.verdict(2, 0), 1);
        CHECK.due("to 0", Letters.bring(x, 2, 0, Letters.verdict(0, 1)), 5);
        CHECK.due("to 1", Letters.bring(x, 2, 1, Letters.verdict(0, 1)), 5);
        x.suspect(1, 0, false);
        x.broadcast(0);
        Letters.bring(x, 0, 1, Letters.news(1));
        CHECK.due("ESTIMATE", Letters.bring(x, 1, 0, Letters.estimate(1, 1, 2, 0)), 2);
        where(x, 0, COUNT, 1, 2, 1);
        CHECK.due("OFFER", Letters.bring(x, 0, 1, Letters.offer(1, 1, 2)), 3);
        CHECK.due("VOTE", Letters.bring(x, 1, 0, Letters.vote(1, 1, 1)), 4);
        CHECK.due("verdict(0, 1)", x.verdict(0, 1), 2);
    }

    private static void spentByOffer() {
        CHECK.begin(ENTERS, "by an offer");
        for (int n = 3; n <= 5; n++) {
            CouncilSequence x = CouncilRuns.lastOffer(n);
            int leader = CouncilRuns.leaderOfLast(n);
            int p = (leader + 1) % n;
            int sent = sent(x, n, p);
            CHECK.due("OFFER", Letters.bring(x, leader, p, Letters.offer(0, 10, 1)), 3);
            where(x, p, SPENT, 11, 1, 10);
            CHECK.due("one letter sent", sent(x, n, p), sent + 1);
            CHECK.due("VOTE", x.letter(p, leader, x.letters(p, leader) - 1), Letters.vote(0, 10, 1));
        }
    }

    private static void spentBySuspicion() {
        CHECK.begin(ENTERS, "by a suspicion");
        for (int n = 3; n <= 5; n++) {
            CouncilSequence x = CouncilRuns.lastRound(n);
            int leader = CouncilRuns.leaderOfLast(n);
            int p = (leader + 1) % n;
            where(x, p, AWAIT, 10, 1, 11 - n);
            int sent = sent(x, n, p);
            CHECK.due("suspect", x.suspect(p, leader, true), true);
            where(x, p, SPENT, 11, 1, 11 - n);
            CHECK.due("one letter sent", sent(x, n, p), sent + 1);
            CHECK.due("VOTE", x.letter(p, leader, x.letters(p, leader) - 1), Letters.vote(0, 10, 0));
        }
    }

    private static void spentByVotes() {
        CHECK.begin(ENTERS, "by votes");
        for (int n = 3; n <= 5; n++) {
            CouncilSequence x = CouncilRuns.lastOffer(n);
            int leader = CouncilRuns.leaderOfLast(n);
            int sent = sent(x, n, leader);
            for (int i = 1; i <= n / 2; i++) {
                int p = (leader + i) % n;
                where(x, leader, COUNT, 10, 1, 10);
                x.suspect(p, leader, true);
                CHECK.due("VOTE", Letters.bring(x, p, leader, Letters.vote(0, 10, 0)), 4);
            }
            where(x, leader, SPENT, 11, 1, 10);
            CHECK.due("no letter sent", sent(x, n, leader), sent);
            CHECK.due("verdict", x.verdict(leader, 0), 0);
        }
    }

    private static int sent(CouncilSequence x, int n, int p) {
        int sum = 0;
        for (int q = 0; q < n; q++) {
            sum += x.letters(p, q);
        }
        return sum;
    }

    private static void spentStays() {
        CHECK.begin(ENTERS, "and stays so");
        CouncilSequence x = CouncilRuns.failed(3, 10);
        CHECK.due("broadcast", x.broadcast(0), 1);
        CHECK.due("NEWS goes out", x.letter(0, 1, x.letters(0, 1) - 1), Letters.news(1));
        where(x, 0, SPENT, 11, 1, 10);
        CHECK.due("NEWS comes", Letters.bring(x, 0, 1, Letters.news(1)), 1);
        CHECK.due("known(1)", x.known(1), 3);
        where(x, 1, SPENT, 11, 1, 8);
        CHECK.due("suspect", x.suspect(1, 0, false), true);
        CHECK.due("suspect", x.suspect(1, 0, true), true);
        where(x, 1, SPENT, 11, 1, 8);
    }

    private static void entersAsLeader() {
        CHECK.begin("if it is the leader of r, it has its own ESTIMATE, with its estimate and stamp, and is in GATHER");
        CouncilSequence x = new CouncilSequence(4);
        x.broadcast(0);
        where(x, 0, GATHER, 1, 1, 0);
        for (int p = 1; p < 4; p++) {
            CHECK.due("0 to " + p, Letters.all(x, 0, p), Letters.row(Letters.news(0)));
        }
        // 1 takes the offer and then leads round 2 with the stamp 1 against the 0 of the others.
        CouncilSequence y = eachItsOwn(4);
        Letters.bring(y, 2, 0, Letters.estimate(0, 1, 4, 0));
        Letters.bring(y, 3, 0, Letters.estimate(0, 1, 8, 0));
        Letters.bring(y, 0, 1, Letters.offer(0, 1, 1));
        where(y, 1, GATHER, 2, 1, 1);
        y.suspect(2, 0, true);
        y.suspect(3, 0, true);
        Letters.bring(y, 2, 1, Letters.estimate(0, 2, 4, 0));
        Letters.bring(y, 3, 1, Letters.estimate(0, 2, 8, 0));
        where(y, 1, COUNT, 2, 1, 2);
    }

    private static void entersAsAnother() {
        CHECK.begin("if not, it sends an ESTIMATE of its council and r, with its estimate and stamp, to the leader of r, and is in AWAIT.");
        for (int n = 3; n <= 5; n++) {
            CouncilSequence x = eachItsOwn(n);
            for (int p = 1; p < n; p++) {
                where(x, p, AWAIT, 1, 1 << p, 0);
                for (int q = 0; q < n; q++) {
                    CHECK.due("ESTIMATE from " + p + " to " + q, Letters.waits(x, p, q, 2, 0, 1), q == 0);
                }
                CHECK.due("last letter", x.letter(p, 0, 1), Letters.estimate(0, 1, 1 << p, 0));
            }
        }
        CouncilSequence y = CouncilRuns.lastRound(3);
        CHECK.due("of round 10", y.letter(2, 0, y.letters(2, 0) - 1), Letters.estimate(0, 10, 1, 9));
    }
}
