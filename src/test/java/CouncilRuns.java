/** Runs of calls that bring an object to places worth looking at. */
final class CouncilRuns {
    private static final int ESTIMATE = 2;
    private static final int OFFER = 3;
    private static final int VOTE = 4;
    private static final int VERDICT = 5;

    private CouncilRuns() {
    }

    /** Process 0 and 1 have agreed on {0} and stand in council 1 with {1, 2}; 2 has got no letter. */
    static CouncilSequence secondCouncil() {
        CouncilSequence x = new CouncilSequence(3);
        x.broadcast(0);
        x.broadcast(0);
        x.broadcast(0);
        x.deliver(0, 1, 0);
        x.deliver(0, 1, 0);
        x.deliver(0, 1, 0);
        Letters.bring(x, 1, 0, Letters.estimate(0, 1, 1, 0));
        Letters.bring(x, 0, 1, Letters.offer(0, 1, 1));
        Letters.bring(x, 1, 0, Letters.vote(0, 1, 1));
        Letters.bring(x, 0, 1, Letters.verdict(0, 1));
        x.deliver(1, 0, 0);
        x.deliver(1, 0, 0);
        x.deliver(1, 0, 0);
        return x;
    }

    /** All processes know message 0: process 0 gathers in round 1, the others await its offer. */
    static CouncilSequence opened(int n) {
        CouncilSequence x = new CouncilSequence(n);
        x.broadcast(0);
        tellAll(x, n, 0, 0);
        return x;
    }

    /** The same, and process 0 has a majority of estimates and has made its offer {0}. */
    static CouncilSequence offered(int n) {
        CouncilSequence x = opened(n);
        for (int p = 1; p < x.majority(); p++) {
            Letters.bring(x, p, 0, ESTIMATE, 0, 1);
        }
        return x;
    }

    /** The same, and process 0 has the verdict {0}, which nobody else has got. */
    static CouncilSequence decided(int n) {
        CouncilSequence x = offered(n);
        for (int p = 1; p < x.majority(); p++) {
            Letters.bring(x, 0, p, OFFER, 0, 1);
            Letters.bring(x, p, 0, VOTE, 0, 1);
        }
        return x;
    }

    /** Process 0 makes the message with the council's number; all finish the council in round 1. */
    static void agree(CouncilSequence x, int n, int council) {
        x.broadcast(0);
        tellAll(x, n, 0, council);
        for (int p = 1; p <= n / 2; p++) {
            Letters.bring(x, p, 0, ESTIMATE, council, 1);
        }
        for (int p = 1; p <= n / 2; p++) {
            Letters.bring(x, 0, p, OFFER, council, 1);
            Letters.bring(x, p, 0, VOTE, council, 1);
        }
        for (int p = 1; p < n; p++) {
            Letters.bring(x, 0, p, VERDICT, council, 0);
        }
    }

    /** So many councils of one message each, all finished by all. */
    static CouncilSequence agreed(int n, int councils) {
        CouncilSequence x = new CouncilSequence(n);
        for (int council = 0; council < councils; council++) {
            agree(x, n, council);
        }
        return x;
    }

    static CouncilSequence eightCouncils() {
        return agreed(3, 8);
    }

    static void tellAll(CouncilSequence x, int n, int from, int message) {
        for (int p = 0; p < n; p++) {
            if (p != from) {
                Letters.bring(x, from, p, Letters.news(message));
            }
        }
    }

    /** Each process suspects each other, so that it goes on to the next round that it leads. */
    static void suspectAll(CouncilSequence x, int n) {
        for (int p = 0; p < n; p++) {
            for (int q = 0; q < n; q++) {
                x.suspect(p, q, true);
            }
        }
    }

    /**
     * The leader of the round gathers there, and the others have passed it with a no: it gets a
     * majority of estimates and of votes, and enters the next round.
     */
    static void failRound(CouncilSequence x, int n, int council, int round) {
        int leader = (round - 1) % n;
        for (int i = 1; i <= n / 2; i++) {
            Letters.bring(x, (leader + i) % n, leader, ESTIMATE, council, round);
        }
        for (int i = 1; i <= n / 2; i++) {
            Letters.bring(x, (leader + i) % n, leader, VOTE, council, round);
        }
    }

    /** All suspect all, and so many rounds of council 0 have failed. */
    static CouncilSequence failed(int n, int rounds) {
        CouncilSequence x = opened(n);
        suspectAll(x, n);
        for (int round = 1; round <= rounds; round++) {
            failRound(x, n, 0, round);
        }
        return x;
    }

    static int leaderOfLast(int n) {
        return 9 % n;
    }

    /** Nine rounds have failed; in round 10 its leader gathers, and the others trust it and await. */
    static CouncilSequence lastRound(int n) {
        CouncilSequence x = opened(n);
        suspectAll(x, n);
        failToTheLast(x, n, 0);
        return x;
    }

    /** When the leader of round 10 has failed for the last time before it, the others trust it. */
    static void failToTheLast(CouncilSequence x, int n, int council) {
        for (int round = 1; round <= 9; round++) {
            failRound(x, n, council, round);
            if (round == 10 - n) {
                for (int p = 0; p < n; p++) {
                    x.suspect(p, leaderOfLast(n), false);
                }
            }
        }
    }

    /** In round 10 its leader has made its offer. */
    static CouncilSequence lastOffer(int n) {
        CouncilSequence x = lastRound(n);
        int leader = leaderOfLast(n);
        for (int i = 1; i <= n / 2; i++) {
            Letters.bring(x, (leader + i) % n, leader, ESTIMATE, 0, 10);
        }
        return x;
    }

    /**
     * Round 10 of three processes: 1 has taken the offer and voted yes, 2 has voted no; 0 is in
     * COUNT with no vote but its own, the others are SPENT.
     */
    static CouncilSequence spentButOne() {
        CouncilSequence x = lastOffer(3);
        Letters.bring(x, 0, 1, OFFER, 0, 10);
        x.suspect(2, 0, true);
        return x;
    }

    /** Delivers the first letter of each pair in turn until none waits. */
    static void bringAll(CouncilSequence x, int n) {
        boolean some = true;
        for (int turn = 0; turn < 100 && some; turn++) {
            some = false;
            for (int from = 0; from < n; from++) {
                for (int to = 0; to < n; to++) {
                    if (from != to) {
                        some |= x.deliver(from, to, 0) > 0;
                    }
                }
            }
        }
    }
}
