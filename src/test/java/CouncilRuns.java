/** Runs of calls that bring an object of three processes to places worth looking at. */
final class CouncilRuns {
    private CouncilRuns() {
    }

    /** Process 0 and 1 have agreed on {0} and stand in council 1 with {1, 2}; 2 has got no letter. */
    static CouncilSequence secondCouncil() {
        CouncilSequence x = new CouncilSequence(3);
        x.broadcast(0);
        x.broadcast(0);
        x.broadcast(0);
        x.deliver(0, 1, 0);
        x.deliver(0, 1, 0);
        x.deliver(0, 1, 0);
        Letters.bring(x, 1, 0, Letters.estimate(0, 1, 1, 0));
        Letters.bring(x, 0, 1, Letters.offer(0, 1, 1));
        Letters.bring(x, 1, 0, Letters.vote(0, 1, 1));
        Letters.bring(x, 0, 1, Letters.verdict(0, 1));
        x.deliver(1, 0, 0);
        x.deliver(1, 0, 0);
        x.deliver(1, 0, 0);
        return x;
    }

    /** Eight councils, each of one message, all finished by all. */
    static CouncilSequence eightCouncils() {
        CouncilSequence x = new CouncilSequence(3);
        for (int m = 0; m < 8; m++) {
            x.broadcast(m % 3);
            bringAll(x, 3);
        }
        return x;
    }

    /**
     * All suspect all through nine rounds; in round 10 process 1 trusts the leader 0 and has voted
     * yes, process 2 has voted no: 0 is in COUNT with no vote but its own, the others are SPENT.
     */
    static CouncilSequence spentButOne() {
        CouncilSequence x = new CouncilSequence(3);
        x.broadcast(0);
        x.deliver(0, 1, 0);
        x.deliver(0, 2, 0);
        for (int p = 0; p < 3; p++) {
            x.suspect(p, (p + 1) % 3, true);
            x.suspect(p, (p + 2) % 3, true);
        }
        for (int round = 1; round <= 9; round++) {
            if (round == 8) {
                x.suspect(1, 0, false);
            }
            failRound(x, round);
        }
        bringKind(x, 1, 0, 2, 10);
        bringKind(x, 0, 1, 3, 10);
        return x;
    }

    /** The others have left this round already; its leader gets one estimate and one no. */
    private static void failRound(CouncilSequence x, int round) {
        int leader = (round - 1) % 3;
        int other = round % 3;
        bringKind(x, other, leader, 2, round);
        bringKind(x, other, leader, 4, round);
    }

    private static void bringKind(CouncilSequence x, int from, int to, int kind, int round) {
        int count = x.letters(from, to);
        for (int j = 0; j < count; j++) {
            int letter = x.letter(from, to, j);
            if (letter % 8 == kind && letter / 64 % 16 == round) {
                x.deliver(from, to, j);
                return;
            }
        }
    }

    /** Delivers the first letter of each pair in turn until none waits. */
    static void bringAll(CouncilSequence x, int n) {
        boolean some = true;
        for (int turn = 0; turn < 100 && some; turn++) {
            some = false;
            for (int from = 0; from < n; from++) {
                for (int to = 0; to < n; to++) {
                    if (from != to) {
                        some |= x.deliver(from, to, 0) > 0;
                    }
                }
            }
        }
    }
}
