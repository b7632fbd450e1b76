/**
 * A group of processes that deliver messages in one order: they agree on one batch of messages
 * after another, each in a council with a leader that changes from round to round.
 */
public final class CouncilSequence {
    private static final int LEAST_PROCESSES = 3;
    private static final int MOST_PROCESSES = 5;
    private static final int MESSAGES = 8;
    private static final int COUNCILS = 8;
    private static final int ROUNDS = 10;
    private static final int MOST_LOST = 20;

    private static final int OUT = 0;
    private static final int GATHER = 1;
    private static final int AWAIT = 2;
    private static final int COUNT = 3;
    private static final int SPENT = 4;
    private static final int CRASHED = 5;

    private static final int NEWS = 1;
    private static final int ESTIMATE = 2;
    private static final int OFFER = 3;
    private static final int VOTE = 4;
    private static final int VERDICT = 5;

    private static final int NO = 0;
    private static final int YES = 1;

    private static final int NO_PROCESS = -1;
    private static final int HAS_CRASHED = -2;
    private static final int USED_UP = -3;
    private static final int NO_LETTER = -3;

    // A process takes at most two steps a round and two more a council: some 180 in its whole life.
    private static final int MOST_STEPS = 1000;

    private final int size;
    private final Member[] members;
    private final Post post;
    private final Papers papers;
    private int made;
    private int crashes;

    public CouncilSequence(int n) {
        size = Math.max(LEAST_PROCESSES, Math.min(MOST_PROCESSES, n));
        members = new Member[size];
        for (int p = 0; p < size; p++) {
            members[p] = new Member();
        }
        post = new Post(size);
        papers = new Papers(size);
    }

    public int broadcast(int p) {
        if (!isProcess(p)) {
            return NO_PROCESS;
        }
        if (members[p].crashed) {
            return HAS_CRASHED;
        }
        if (made == MESSAGES) {
            return USED_UP;
        }
        int message = made;
        made++;
        learn(p, message);
        goOn(p);
        return message;
    }

    public int deliver(int from, int to, int j) {
        if (!isProcess(from) || !isProcess(to) || from == to) {
            return NO_PROCESS;
        }
        if (members[to].crashed) {
            return HAS_CRASHED;
        }
        int place = post.placeOf(from, to, j);
        if (place < 0) {
            return NO_LETTER;
        }
        int text = post.textAt(place);
        post.takeAway(place);
        receive(from, to, text);
        goOn(to);
        return Letter.kindOf(text);
    }

    public boolean suspect(int p, int q, boolean on) {
        if (!isProcess(p) || !isProcess(q) || p == q || members[p].crashed) {
            return false;
        }
        members[p].setSuspicion(q, on);
        goOn(p);
        return true;
    }

    public boolean crash(int p, int lost) {
        if (!isProcess(p) || members[p].crashed || crashes == mostCrashes()) {
            return false;
        }
        if (lost < 0 || lost > MOST_LOST) {
            return false;
        }
        members[p].crashed = true;
        crashes++;
        post.loseLatest(p, lost);
        return true;
    }

    public int letters(int from, int to) {
        if (!isProcess(from) || !isProcess(to)) {
            return NO_PROCESS;
        }
        return post.howMany(from, to);
    }

    public int letter(int from, int to, int j) {
        if (!isProcess(from) || !isProcess(to)) {
            return 0;
        }
        int place = post.placeOf(from, to, j);
        return place < 0 ? 0 : post.textAt(place);
    }

    public boolean suspects(int p, int q) {
        return isProcess(p) && isProcess(q) && members[p].hasSuspicion(q);
    }

    public int state(int p) {
        if (!isProcess(p)) {
            return NO_PROCESS;
        }
        return members[p].crashed ? CRASHED : members[p].state;
    }

    public int finished(int p) {
        return isProcess(p) ? members[p].council : NO_PROCESS;
    }

    public int round(int p) {
        return isProcess(p) ? members[p].round : NO_PROCESS;
    }

    public int estimate(int p) {
        return isProcess(p) ? members[p].estimate : NO_PROCESS;
    }

    public int stamp(int p) {
        return isProcess(p) ? members[p].stamp : NO_PROCESS;
    }

    public int known(int p) {
        return isProcess(p) ? members[p].known : NO_PROCESS;
    }

    public int delivered(int p) {
        return isProcess(p) ? members[p].deliveredCount : NO_PROCESS;
    }

    public int deliveredAt(int p, int i) {
        if (!isProcess(p) || i < 0 || i >= members[p].deliveredCount) {
            return -1;
        }
        return members[p].order[i];
    }

    public int verdict(int p, int k) {
        if (!isProcess(p) || k < 0 || k >= COUNCILS) {
            return -1;
        }
        return members[p].verdicts[k];
    }

    public int majority() {
        return size / 2 + 1;
    }

    public int messages() {
        return made;
    }

    private boolean isProcess(int p) {
        return p >= 0 && p < size;
    }

    private int mostCrashes() {
        return (size - 1) / 2;
    }

    private int leaderOf(int round) {
        return (round - 1) % size;
    }

    private void sendToAllOthers(int from, int text) {
        for (int to = 0; to < size; to++) {
            if (to != from) {
                post.send(from, to, text);
            }
        }
    }

    private void receive(int from, int to, int text) {
        int council = Letter.councilOf(text);
        int round = Letter.roundOf(text);
        int word = Letter.wordOf(text);
        switch (Letter.kindOf(text)) {
            case NEWS:
                learn(to, word);
                break;
            case ESTIMATE:
                papers.keepEstimate(council, round, from, word, Letter.stampOf(text));
                break;
            case OFFER:
                papers.keepOffer(council, round, to, word);
                break;
            case VOTE:
                papers.keepVote(council, round, from, word);
                break;
            default:
                accept(to, council, word);
                break;
        }
    }

    private void learn(int p, int message) {
        if (!members[p].knows(message)) {
            members[p].addKnown(message);
            sendToAllOthers(p, Letter.write(NEWS, 0, 0, message, 0));
        }
    }

    private void accept(int p, int council, int batch) {
        if (members[p].verdicts[council] == 0) {
            members[p].verdicts[council] = batch;
            sendToAllOthers(p, Letter.write(VERDICT, council, 0, batch, 0));
        }
    }

    private void goOn(int p) {
        int steps = 0;
        while (steps < MOST_STEPS && takeStep(p)) {
            steps++;
        }
    }

    /** Answers whether there was a step to take. */
    private boolean takeStep(int p) {
        Member member = members[p];
        if (member.hasVerdictOfItsCouncil()) {
            member.finishCouncil();
            return true;
        }
        switch (member.state) {
            case OUT:
                return openCouncil(p, member);
            case GATHER:
                return makeOffer(p, member);
            case AWAIT:
                return answerLeader(p, member);
            case COUNT:
                return countVotes(p, member);
            default:
                return false;
        }
    }

    private boolean openCouncil(int p, Member member) {
        int batch = member.undelivered();
        // Each council delivers something new, so the eighth leaves nothing; the bound guards the rows.
        if (batch == 0 || member.council >= COUNCILS) {
            return false;
        }
        member.estimate = batch;
        member.stamp = 0;
        enter(p, member, 1);
        return true;
    }

    private boolean makeOffer(int p, Member member) {
        int council = member.council;
        int round = member.round;
        if (papers.estimatesOf(council, round) < majority()) {
            return false;
        }
        member.adopt(papers.bestBatch(council, round));
        sendToAllOthers(p, Letter.write(OFFER, council, round, member.estimate, 0));
        papers.keepVote(council, round, p, YES);
        member.state = COUNT;
        return true;
    }

    private boolean answerLeader(int p, Member member) {
        int council = member.council;
        int round = member.round;
        int leader = leaderOf(round);
        int offer = papers.offerTo(council, round, p);
        if (offer == 0 && !member.hasSuspicion(leader)) {
            return false;
        }
        // An offer goes before a suspicion, even if both are there.
        int vote = NO;
        if (offer != 0) {
            member.adopt(offer);
            vote = YES;
        }
        post.send(p, leader, Letter.write(VOTE, council, round, vote, 0));
        enter(p, member, round + 1);
        return true;
    }

    private boolean countVotes(int p, Member member) {
        int council = member.council;
        int round = member.round;
        if (papers.votesOf(council, round) < majority()) {
            return false;
        }
        if (papers.allYes(council, round)) {
            accept(p, council, member.estimate);
        } else {
            enter(p, member, round + 1);
        }
        return true;
    }

    private void enter(int p, Member member, int round) {
        member.round = round;
        if (round > ROUNDS) {
            member.state = SPENT;
            return;
        }
        int council = member.council;
        int leader = leaderOf(round);
        if (p == leader) {
            papers.keepEstimate(council, round, p, member.estimate, member.stamp);
            member.state = GATHER;
        } else {
            int text = Letter.write(ESTIMATE, council, round, member.estimate, member.stamp);
            post.send(p, leader, text);
            member.state = AWAIT;
        }
    }

    /** One process; crashed stands beside the state, as what a crashed process is in stays. */
    private static final class Member {
        final int[] order = new int[MESSAGES];
        final int[] verdicts = new int[COUNCILS];
        int known;
        int deliveredSet;
        int deliveredCount;
        int suspicions;
        int council;
        int state;
        int round;
        int estimate;
        int stamp;
        boolean crashed;

        boolean knows(int message) {
            return (known >> message & 1) != 0;
        }

        void addKnown(int message) {
            known |= 1 << message;
        }

        int undelivered() {
            return known & ~deliveredSet;
        }

        boolean hasSuspicion(int q) {
            return (suspicions >> q & 1) != 0;
        }

        void setSuspicion(int q, boolean on) {
            if (on) {
                suspicions |= 1 << q;
            } else {
                suspicions &= ~(1 << q);
            }
        }

        /** No batch is empty, so 0 stands for no verdict. */
        boolean hasVerdictOfItsCouncil() {
            return council < COUNCILS && verdicts[council] != 0;
        }

        void finishCouncil() {
            deliverBatch(verdicts[council]);
            council++;
            state = OUT;
            round = 0;
            estimate = 0;
            stamp = 0;
        }

        private void deliverBatch(int batch) {
            int fresh = batch & ~deliveredSet;
            for (int message = 0; message < MESSAGES; message++) {
                if ((fresh >> message & 1) != 0) {
                    order[deliveredCount] = message;
                    deliveredCount++;
                }
            }
            deliveredSet |= fresh;
        }

        void adopt(int batch) {
            estimate = batch;
            stamp = round;
        }
    }

    /** A letter's text as one int, in the very form in which the document tells it. */
    private static final class Letter {
        static final int BITS = 22;

        static int write(int kind, int council, int round, int word, int stamp) {
            return kind | council << 3 | round << 6 | word << 10 | stamp << 18;
        }

        static int kindOf(int text) {
            return text & 7;
        }

        static int councilOf(int text) {
            return text >> 3 & 7;
        }

        static int roundOf(int text) {
            return text >> 6 & 15;
        }

        static int wordOf(int text) {
            return text >> 10 & 255;
        }

        static int stampOf(int text) {
            return text >> 18 & 15;
        }
    }

    /** All letters that wait, in the order in which they were sent: a crash takes the latest. */
    private static final class Post {
        private final int[] waiting;
        private int count;

        Post(int size) {
            waiting = new int[mostLetters(size)];
        }

        /**
         * A process spreads each message and each verdict once; a round of a council has, for each
         * process but the leader, one estimate, one offer and one vote.
         */
        private static int mostLetters(int size) {
            int spread = (MESSAGES + COUNCILS) * size;
            int inRounds = 3 * COUNCILS * ROUNDS;
            return (spread + inRounds) * (size - 1);
        }

        void send(int from, int to, int text) {
            if (count < waiting.length) {
                waiting[count] = (from << 3 | to) << Letter.BITS | text;
                count++;
            }
        }

        private boolean goes(int place, int from, int to) {
            return waiting[place] >> Letter.BITS == (from << 3 | to);
        }

        private boolean comesFrom(int place, int from) {
            return waiting[place] >> Letter.BITS >> 3 == from;
        }

        int howMany(int from, int to) {
            int found = 0;
            for (int place = 0; place < count; place++) {
                if (goes(place, from, to)) {
                    found++;
                }
            }
            return found;
        }

        /** Where the j-th letter from one process to another waits, -1 if there is none. */
        int placeOf(int from, int to, int j) {
            int before = 0;
            for (int place = 0; place < count; place++) {
                if (goes(place, from, to)) {
                    if (before == j) {
                        return place;
                    }
                    before++;
                }
            }
            return -1;
        }

        int textAt(int place) {
            return waiting[place] & (1 << Letter.BITS) - 1;
        }

        void takeAway(int place) {
            count--;
            System.arraycopy(waiting, place + 1, waiting, place, count - place);
        }

        void loseLatest(int from, int lost) {
            int left = lost;
            for (int place = count - 1; place >= 0 && left > 0; place--) {
                if (comesFrom(place, from)) {
                    takeAway(place);
                    left--;
                }
            }
        }
    }

    /**
     * The letters of councils that were kept. Estimates and votes of a round come to its leader
     * alone, so that one row a round serves all processes.
     */
    private static final class Papers {
        private final int size;
        private final int[] estimates;
        private final int[] offers;
        private final int[] yesVoters;
        private final int[] noVoters;

        Papers(int size) {
            this.size = size;
            int rows = COUNCILS * ROUNDS;
            estimates = new int[rows * size];
            offers = new int[rows * size];
            yesVoters = new int[rows];
            noVoters = new int[rows];
        }

        private static int row(int council, int round) {
            return council * ROUNDS + round - 1;
        }

        private int cell(int council, int round, int p) {
            return (council * ROUNDS + round - 1) * size + p;
        }

        /** The stamp stands above the batch; as no batch is empty, 0 stands for no estimate. */
        void keepEstimate(int council, int round, int from, int batch, int stamp) {
            estimates[cell(council, round, from)] = stamp << MESSAGES | batch;
        }

        int estimatesOf(int council, int round) {
            int found = 0;
            for (int p = 0; p < size; p++) {
                if (estimates[cell(council, round, p)] != 0) {
                    found++;
                }
            }
            return found;
        }

        /** The batch with the greatest stamp, of several the one from the least process. */
        int bestBatch(int council, int round) {
            int best = 0;
            for (int p = 0; p < size; p++) {
                int here = estimates[cell(council, round, p)];
                if (here != 0 && (best == 0 || here >> MESSAGES > best >> MESSAGES)) {
                    best = here;
                }
            }
            return best & (1 << MESSAGES) - 1;
        }

        void keepOffer(int council, int round, int to, int batch) {
            offers[cell(council, round, to)] = batch;
        }

        int offerTo(int council, int round, int to) {
            return offers[cell(council, round, to)];
        }

        void keepVote(int council, int round, int from, int vote) {
            if (vote == YES) {
                yesVoters[row(council, round)] |= 1 << from;
            } else {
                noVoters[row(council, round)] |= 1 << from;
            }
        }

        int votesOf(int council, int round) {
            int row = row(council, round);
            return Integer.bitCount(yesVoters[row] | noVoters[row]);
        }

        boolean allYes(int council, int round) {
            return noVoters[row(council, round)] == 0;
        }
    }
}
