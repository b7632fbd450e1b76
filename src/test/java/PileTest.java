/** Eight councils of five processes in which most letters are left to wait: hundreds at the end. */
public final class PileTest {
    private static final int N = 5;
    private static final Check CHECK = new Check("PileTest");
    private static final CouncilSequence X = new CouncilSequence(N);
    private static final Model MODEL = new Model(N);
    private static int calls;

    public static void main(String[] args) {
        suspectAllButTheLast();
        for (int council = 0; council < 8; council++) {
            CHECK.begin("council " + council);
            hold(council);
        }
        CHECK.begin("what waits");
        compareLetters();
        CHECK.due("within 512 calls", calls <= 512, true);
        CHECK.end();
    }

    private static void suspectAllButTheLast() {
        for (int p = 0; p < N; p++) {
            for (int q = 0; q < N - 1; q++) {
                calls++;
                CHECK.due("suspect", X.suspect(p, q, true), MODEL.suspect(p, q, true));
            }
        }
    }

    /** Rounds 1 to 4 fail, as all suspect their leaders; in round 5 all trust process 4. */
    private static void hold(int council) {
        calls++;
        CHECK.due("broadcast(0)", X.broadcast(0), MODEL.broadcast(0));
        for (int p = 1; p < N; p++) {
            bring(0, p, 1, 0, 0);
        }
        for (int round = 1; round <= 5; round++) {
            int leader = round - 1;
            int one = (leader + 1) % N;
            int two = (leader + 2) % N;
            bring(one, leader, 2, council, round);
            bring(two, leader, 2, council, round);
            if (round == 5) {
                bring(leader, one, 3, council, round);
                bring(leader, two, 3, council, round);
            }
            bring(one, leader, 4, council, round);
            bring(two, leader, 4, council, round);
        }
        for (int p = 0; p < N; p++) {
            if (p != 4) {
                bring(4, p, 5, council, 0);
            }
            calls++;
            CHECK.due("finished(" + p + ")", X.finished(p), council + 1);
        }
    }

    /** The model finds the latest such letter, so that the looking does not count as calls. */
    private static void bring(int from, int to, int kind, int council, int round) {
        for (int j = MODEL.letters(from, to) - 1; j >= 0; j--) {
            int letter = MODEL.letter(from, to, j);
            if (letter % 8 == kind && letter / 8 % 8 == council && letter / 64 % 16 == round) {
                calls++;
                CHECK.due("deliver", X.deliver(from, to, j), MODEL.deliver(from, to, j));
                return;
            }
        }
        CHECK.due("a letter of kind " + kind + " from " + from + " to " + to, false, true);
    }

    private static void compareLetters() {
        int waiting = 0;
        for (int from = 0; from < N; from++) {
            for (int to = 0; to < N; to++) {
                int count = MODEL.letters(from, to);
                waiting += count;
                calls += 2;
                CHECK.due("letters(" + from + ", " + to + ")", X.letters(from, to), count);
                CHECK.due("the last", X.letter(from, to, count - 1), MODEL.letter(from, to, count - 1));
            }
        }
        System.out.println(waiting + " letters wait after " + calls + " calls");
        CHECK.due("more than 500 wait", waiting > 500, true);
    }
}
