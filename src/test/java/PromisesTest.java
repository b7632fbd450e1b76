/** For each promise: ordinary calls, the edges that the document names, and wrong inputs. */
public final class PromisesTest {
    private static final int[] NO_SUCH = {-1, Integer.MIN_VALUE, 3, 5, 32, 33, Integer.MAX_VALUE};
    private static final Check CHECK = new Check("PromisesTest");

    public static void main(String[] args) {
        newObject();
        broadcast();
        broadcastRefused();
        deliver();
        deliverRefused();
        suspect();
        suspectRefused();
        crash();
        crashTakesLatest();
        crashRefused();
        letters();
        letter();
        suspects();
        state();
        stateSpent();
        finished();
        round();
        estimateAndStamp();
        known();
        delivered();
        verdict();
        majorityAndMessages();
        refusedChangesNothing();
        CHECK.end();
    }

    private static void newObject() {
        int[][] sizes = {
            {Integer.MIN_VALUE, 3}, {-1, 3}, {0, 3}, {2, 3}, {3, 3}, {4, 4}, {5, 5}, {6, 5}, {100, 5}, {Integer.MAX_VALUE, 5}};
        for (int[] pair : sizes) {
            CHECK.begin("promise 1, n = " + pair[0]);
            CouncilSequence x = new CouncilSequence(pair[0]);
            CHECK.due("known of the last process", x.known(pair[1] - 1), 0);
            CHECK.due("known of one more", x.known(pair[1]), -1);
            CHECK.due("messages", x.messages(), 0);
            for (int p = 0; p < pair[1]; p++) {
                freshProcess(x, p);
                for (int q = 0; q < pair[1]; q++) {
                    CHECK.due("letters", x.letters(p, q), 0);
                    CHECK.due("suspects", x.suspects(p, q), false);
                }
            }
        }
    }

    private static void freshProcess(CouncilSequence x, int p) {
        CHECK.due("state", x.state(p), 0);
        CHECK.due("finished", x.finished(p), 0);
        CHECK.due("round", x.round(p), 0);
        CHECK.due("estimate", x.estimate(p), 0);
        CHECK.due("stamp", x.stamp(p), 0);
        CHECK.due("known", x.known(p), 0);
        CHECK.due("delivered", x.delivered(p), 0);
        CHECK.due("deliveredAt", x.deliveredAt(p, 0), -1);
        for (int k = 0; k < 8; k++) {
            CHECK.due("verdict", x.verdict(p, k), 0);
        }
    }

    private static void broadcast() {
        CHECK.begin("promise 2");
        CouncilSequence x = new CouncilSequence(3);
        CHECK.due("first", x.broadcast(1), 0);
        CHECK.due("known(1)", x.known(1), 1);
        CHECK.due("state(1)", x.state(1), 2);
        CHECK.due("1 to 0", Letters.all(x, 1, 0), Letters.row(Letters.news(0), Letters.estimate(0, 1, 1, 0)));
        CHECK.due("1 to 2", Letters.all(x, 1, 2), Letters.row(Letters.news(0)));
        CHECK.due("second", x.broadcast(1), 1);
        CHECK.due("known(1)", x.known(1), 3);
        CHECK.due("estimate(1) stays", x.estimate(1), 1);
        CHECK.due("1 to 2", Letters.all(x, 1, 2), Letters.row(Letters.news(0), Letters.news(1)));
        CHECK.due("of another", x.broadcast(0), 2);
        CHECK.due("estimate(0)", x.estimate(0), 4);
        CHECK.due("state(0)", x.state(0), 1);

        CouncilSequence y = new CouncilSequence(3);
        y.suspect(2, 0, true);
        y.suspect(2, 1, true);
        CHECK.due("of one that suspects", y.broadcast(2), 0);
        CHECK.due("round(2)", y.round(2), 3);
        CHECK.due("state(2)", y.state(2), 1);
        CHECK.due("2 to 0", Letters.all(y, 2, 0),
            Letters.row(Letters.news(0), Letters.estimate(0, 1, 1, 0), Letters.vote(0, 1, 0)));
        CHECK.due("2 to 1", Letters.all(y, 2, 1),
            Letters.row(Letters.news(0), Letters.estimate(0, 2, 1, 0), Letters.vote(0, 2, 0)));
    }

    private static void broadcastRefused() {
        CHECK.begin("promise 2, refused");
        CouncilSequence x = new CouncilSequence(3);
        for (int p : NO_SUCH) {
            CHECK.due("broadcast(" + p + ")", x.broadcast(p), -1);
        }
        x.crash(2, 0);
        CHECK.due("of a crashed one", x.broadcast(2), -2);
        for (int m = 0; m < 8; m++) {
            CHECK.due("broadcast(" + m % 2 + ")", x.broadcast(m % 2), m);
        }
        CHECK.due("the ninth", x.broadcast(0), -3);
        CHECK.due("the ninth of a crashed one", x.broadcast(2), -2);
        CHECK.due("the ninth of nobody", x.broadcast(3), -1);
        CHECK.due("messages", x.messages(), 8);
        CHECK.due("letters(0, 2)", x.letters(0, 2), 4);
    }

    private static void deliver() {
        CHECK.begin("promise 3");
        CouncilSequence x = new CouncilSequence(4);
        x.broadcast(0);
        x.broadcast(0);
        x.broadcast(0);
        CHECK.due("the middle one", x.deliver(0, 3, 1), 1);
        CHECK.due("0 to 3", Letters.all(x, 0, 3), Letters.row(Letters.news(0), Letters.news(2)));
        CHECK.due("0 to 1", x.letters(0, 1), 3);
        CHECK.due("known(3)", x.known(3), 2);
        CHECK.due("estimate of it", Letters.bring(x, 3, 0, Letters.estimate(0, 1, 2, 0)), 2);
        CHECK.due("state(0)", x.state(0), 1);
        CHECK.due("NEWS again", x.deliver(3, 0, 0), 1);
        CHECK.due("nothing sent for it", x.letters(0, 1), 3);
        CHECK.due("known(0)", x.known(0), 7);
        CHECK.due("1 learns", Letters.bring(x, 0, 1, Letters.news(2)), 1);
        CHECK.due("1 tells all others", Letters.all(x, 1, 0) + "," + Letters.all(x, 1, 2) + "," + Letters.all(x, 1, 3),
            Letters.row(Letters.news(2), Letters.estimate(0, 1, 4, 0)) + "," + Letters.news(2) + "," + Letters.news(2));
        CHECK.due("a third estimate", Letters.bring(x, 1, 0, Letters.estimate(0, 1, 4, 0)), 2);
        CHECK.due("state(0)", x.state(0), 3);
        CHECK.due("OFFER", Letters.bring(x, 0, 1, Letters.offer(0, 1, 1)), 3);
        CHECK.due("VOTE", Letters.bring(x, 1, 0, Letters.vote(0, 1, 1)), 4);
        CHECK.due("OFFER", Letters.bring(x, 0, 3, Letters.offer(0, 1, 1)), 3);
        CHECK.due("crash(3)", x.crash(3, 0), true);
        CHECK.due("VOTE of a crashed one", Letters.bring(x, 3, 0, Letters.vote(0, 1, 1)), 4);
        CHECK.due("finished(0)", x.finished(0), 1);
        CHECK.due("VERDICT", Letters.bring(x, 0, 2, Letters.verdict(0, 1)), 5);
        CHECK.due("2 tells all others", Letters.all(x, 2, 1), Letters.row(Letters.verdict(0, 1)));
        CHECK.due("VERDICT", Letters.bring(x, 2, 1, Letters.verdict(0, 1)), 5);
        int before = x.letters(1, 2);
        CHECK.due("VERDICT again", Letters.bring(x, 0, 1, Letters.verdict(0, 1)), 5);
        CHECK.due("nothing sent for it", x.letters(1, 2), before);
    }

    private static void deliverRefused() {
        CHECK.begin("promise 3, refused");
        CouncilSequence x = new CouncilSequence(3);
        x.broadcast(0);
        x.broadcast(0);
        for (int p : NO_SUCH) {
            CHECK.due("from " + p, x.deliver(p, 1, 0), -1);
            CHECK.due("to " + p, x.deliver(0, p, 0), -1);
            CHECK.due("from and to " + p, x.deliver(p, p, 0), -1);
            if (p != 3 && p != 5) {
                CHECK.due("place " + p, x.deliver(0, 1, p), -3);
            }
        }
        CHECK.due("to itself", x.deliver(0, 0, 0), -1);
        CHECK.due("place 2 of 2", x.deliver(0, 1, 2), -3);
        CHECK.due("none waits", x.deliver(1, 0, 0), -3);
        x.crash(1, 0);
        CHECK.due("to a crashed one", x.deliver(0, 1, 0), -2);
        CHECK.due("no letter, to a crashed one", x.deliver(0, 1, 9), -2);
        CHECK.due("a crashed one to itself", x.deliver(1, 1, 0), -1);
        CHECK.due("from nobody to a crashed one", x.deliver(-1, 1, 0), -1);
        CHECK.due("letters(0, 1)", x.letters(0, 1), 2);
        CHECK.due("place 1 of 2", x.deliver(0, 2, 1), 1);
    }

    private static void suspect() {
        CHECK.begin("promise 4");
        CouncilSequence x = new CouncilSequence(3);
        CHECK.due("on", x.suspect(2, 0, true), true);
        CHECK.due("on again", x.suspect(2, 0, true), true);
        CHECK.due("suspects", x.suspects(2, 0), true);
        CHECK.due("state(2)", x.state(2), 0);
        CHECK.due("off", x.suspect(2, 0, false), true);
        CHECK.due("off again", x.suspect(2, 0, false), true);
        CHECK.due("suspects", x.suspects(2, 0), false);
        x.broadcast(2);
        CHECK.due("round(2)", x.round(2), 1);
        CHECK.due("not the leader", x.suspect(2, 1, true), true);
        CHECK.due("round(2)", x.round(2), 1);
        CHECK.due("the leader", x.suspect(2, 0, true), true);
        CHECK.due("goes on to round", x.round(2), 3);
        CHECK.due("2 to 0", x.letter(2, 0, 2), Letters.vote(0, 1, 0));
        CHECK.due("stamp(2)", x.stamp(2), 0);
        CHECK.due("estimate(2)", x.estimate(2), 1);
        CHECK.due("off", x.suspect(2, 0, false), true);
        CHECK.due("stays in round", x.round(2), 3);
        x.crash(1, 0);
        CHECK.due("of a crashed one, off", x.suspect(2, 1, false), true);
        CHECK.due("of a crashed one, on", x.suspect(2, 1, true), true);
        CHECK.due("suspects", x.suspects(2, 1), true);
    }

    private static void suspectRefused() {
        CHECK.begin("promise 4, refused");
        CouncilSequence x = new CouncilSequence(3);
        for (int p : NO_SUCH) {
            CHECK.due("suspect(" + p + ", 0)", x.suspect(p, 0, true), false);
            CHECK.due("suspect(0, " + p + ")", x.suspect(0, p, true), false);
        }
        CHECK.due("itself", x.suspect(1, 1, true), false);
        CHECK.due("itself, off", x.suspect(1, 1, false), false);
        CHECK.due("suspects", x.suspects(1, 1), false);
        x.suspect(0, 1, true);
        x.crash(0, 0);
        CHECK.due("by a crashed one", x.suspect(0, 2, true), false);
        CHECK.due("by a crashed one, off", x.suspect(0, 1, false), false);
        CHECK.due("suspects", x.suspects(0, 2), false);
        CHECK.due("suspects", x.suspects(0, 1), true);
    }

    private static void crash() {
        CHECK.begin("promise 5");
        int[][] most = {{3, 1}, {4, 1}, {5, 2}};
        for (int[] pair : most) {
            CouncilSequence x = new CouncilSequence(pair[0]);
            for (int p = 0; p < pair[0]; p++) {
                CHECK.due("crash(" + p + ") of " + pair[0], x.crash(p, 0), p < pair[1]);
                CHECK.due("state(" + p + ")", x.state(p), p < pair[1] ? 5 : 0);
            }
        }
        CouncilSequence y = new CouncilSequence(3);
        y.broadcast(1);
        CHECK.due("none lost", y.crash(1, 0), true);
        CHECK.due("letters(1, 0)", y.letters(1, 0), 2);
        CHECK.due("letters(1, 2)", y.letters(1, 2), 1);
        CHECK.due("round(1)", y.round(1), 1);
        CHECK.due("estimate(1)", y.estimate(1), 1);
        CHECK.due("known(1)", y.known(1), 1);
        CHECK.due("its letters are delivered", y.deliver(1, 2, 0), 1);
        CHECK.due("letters to it wait", y.letters(2, 1), 1);
    }

    private static void crashTakesLatest() {
        CHECK.begin("promise 5, letters lost");
        // Process 2 sends NEWS 0 to 0 and 1, an ESTIMATE to 0, then NEWS 1 to 0 and 1: five letters.
        int[][] leftTo = {{3, 2}, {3, 1}, {2, 1}, {1, 1}, {1, 0}, {0, 0}, {0, 0}, {0, 0}};
        for (int lost = 0; lost < leftTo.length; lost++) {
            CouncilSequence x = new CouncilSequence(3);
            x.broadcast(2);
            x.broadcast(2);
            x.broadcast(1);
            CHECK.due("crash(2, " + lost + ")", x.crash(2, lost), true);
            CHECK.due(lost + " lost, to 0", x.letters(2, 0), leftTo[lost][0]);
            CHECK.due(lost + " lost, to 1", x.letters(2, 1), leftTo[lost][1]);
            CHECK.due("of another, to 0", x.letters(1, 0), 2);
            CHECK.due("of another, to 2", x.letters(1, 2), 1);
        }
        CouncilSequence y = new CouncilSequence(3);
        y.broadcast(2);
        y.broadcast(2);
        y.deliver(2, 1, 1);
        CHECK.due("after one is delivered", y.crash(2, 2), true);
        CHECK.due("to 0", Letters.all(y, 2, 0), Letters.row(Letters.news(0)));
        CHECK.due("to 1", Letters.all(y, 2, 1), Letters.row(Letters.news(0)));

        CouncilSequence z = new CouncilSequence(5);
        for (int m = 0; m < 6; m++) {
            z.broadcast(3);
        }
        z.crash(4, 20);
        CHECK.due("letters to a crashed one are lost too", z.crash(3, 20), true);
        CHECK.due("first ones left", Letters.all(z, 3, 0), Letters.row(Letters.news(0), Letters.estimate(0, 1, 1, 0)));
        CHECK.due("first ones left", z.letters(3, 1) + z.letters(3, 2) * 10 + z.letters(3, 4) * 100, 111);
    }

    private static void crashRefused() {
        CHECK.begin("promise 5, refused");
        CouncilSequence x = new CouncilSequence(5);
        x.broadcast(1);
        for (int p : new int[] {-1, 5, 32, 33, Integer.MIN_VALUE, Integer.MAX_VALUE}) {
            CHECK.due("crash(" + p + ")", x.crash(p, 0), false);
        }
        for (int lost : new int[] {-1, 21, Integer.MIN_VALUE, Integer.MAX_VALUE}) {
            CHECK.due("lost " + lost, x.crash(1, lost), false);
        }
        CHECK.due("state(1)", x.state(1), 2);
        CHECK.due("letters(1, 0)", x.letters(1, 0), 2);
        CHECK.due("lost 20", x.crash(1, 20), true);
        CHECK.due("twice", x.crash(1, 20), false);
        CHECK.due("a refused one does not count", x.crash(2, 0), true);
        CHECK.due("a third", x.crash(0, 0), false);
        CHECK.due("state(0)", x.state(0), 0);
    }

    private static void letters() {
        CHECK.begin("promise 6");
        CouncilSequence x = new CouncilSequence(3);
        x.broadcast(0);
        x.broadcast(0);
        CHECK.due("0 to 1", x.letters(0, 1), 2);
        CHECK.due("1 to 0", x.letters(1, 0), 0);
        CHECK.due("to itself", x.letters(0, 0), 0);
        x.deliver(0, 1, 0);
        CHECK.due("one delivered", x.letters(0, 1), 1);
        CHECK.due("0 to 2", x.letters(0, 2), 2);
        x.crash(2, 0);
        CHECK.due("to a crashed one", x.letters(0, 2), 2);
        x.broadcast(0);
        CHECK.due("sent to a crashed one", x.letters(0, 2), 3);
        for (int p : NO_SUCH) {
            CHECK.due("from " + p, x.letters(p, 0), -1);
            CHECK.due("to " + p, x.letters(0, p), -1);
            CHECK.due("from and to " + p, x.letters(p, p), -1);
        }
    }

    private static void letter() {
        CHECK.begin("promise 7");
        CouncilSequence x = CouncilRuns.secondCouncil();
        CHECK.due("NEWS", x.letter(0, 2, 0), 1);
        CHECK.due("NEWS of 1", x.letter(0, 2, 1), 1 + 1024);
        CHECK.due("NEWS of 2", x.letter(0, 2, 2), 1 + 2048);
        CHECK.due("OFFER", x.letter(0, 2, 3), 3 + 64 + 1024);
        CHECK.due("VERDICT", x.letter(0, 2, 4), 5 + 1024);
        CHECK.due("no more", x.letter(0, 2, 5), 0);
        CHECK.due("VERDICT told on", x.letter(1, 2, 3), 5 + 1024);
        CHECK.due("ESTIMATE of council 1", Letters.all(x, 1, 0),
            Letters.row(5 + 1024, 2 + 8 + 64 + 1024 * 6));
        x.suspect(1, 0, true);
        CHECK.due("VOTE no", x.letter(1, 0, 2), 4 + 8 + 64);
        Letters.bring(x, 1, 0, Letters.estimate(1, 1, 6, 0));
        x.suspect(2, 1, true);
        Letters.bring(x, 0, 2, Letters.offer(1, 1, 6));
        Letters.bring(x, 0, 2, Letters.verdict(0, 1));
        Letters.bring(x, 0, 2, Letters.news(1));
        CHECK.due("VOTE yes", Letters.all(x, 2, 0).endsWith(" " + (4 + 8 + 64 + 1024)), true);
        CHECK.due("ESTIMATE with a stamp", Letters.all(x, 2, 1),
            Letters.row(5 + 1024, 1 + 1024, 2 + 8 + 128 + 1024 * 6 + 262144, 4 + 8 + 128));
        for (int p : NO_SUCH) {
            CHECK.due("from " + p, x.letter(p, 0, 0), 0);
            CHECK.due("to " + p, x.letter(0, p, 0), 0);
            CHECK.due("place " + p, x.letter(2, 0, p < 9 && p > 0 ? 9 : p), 0);
        }
        CHECK.due("to itself", x.letter(0, 0, 0), 0);
        x.crash(2, 0);
        CHECK.due("to a crashed one", x.letter(0, 2, 0), 1);
        CHECK.due("of a crashed one", x.letter(2, 1, 0), 5 + 1024);
    }

    private static void suspects() {
        CHECK.begin("promise 8");
        CouncilSequence x = new CouncilSequence(5);
        x.suspect(4, 1, true);
        x.suspect(0, 3, true);
        x.suspect(0, 4, true);
        x.suspect(0, 3, false);
        for (int p = -1; p < 7; p++) {
            for (int q = -1; q < 7; q++) {
                CHECK.due("suspects(" + p + ", " + q + ")", x.suspects(p, q), p == 4 && q == 1 || p == 0 && q == 4);
            }
        }
        x.crash(4, 0);
        CHECK.due("of a crashed one", x.suspects(4, 1), true);
        CHECK.due("a crashed one", x.suspects(0, 4), true);
        CHECK.due("wild p", x.suspects(Integer.MIN_VALUE, 0), false);
        CHECK.due("wild q", x.suspects(0, 36), false);
    }

    private static void state() {
        CHECK.begin("promise 9");
        CouncilSequence x = new CouncilSequence(3);
        CHECK.due("OUT", x.state(1), 0);
        x.broadcast(0);
        CHECK.due("GATHER", x.state(0), 1);
        x.deliver(0, 1, 0);
        CHECK.due("AWAIT", x.state(1), 2);
        Letters.bring(x, 1, 0, Letters.estimate(0, 1, 1, 0));
        CHECK.due("COUNT", x.state(0), 3);
        x.crash(0, 0);
        CHECK.due("crashed", x.state(0), 5);
        for (int p : NO_SUCH) {
            CHECK.due("state(" + p + ")", x.state(p), -1);
        }
    }

    private static void stateSpent() {
        CHECK.begin("promises 9 to 13, SPENT");
        CouncilSequence x = CouncilRuns.spentButOne();
        CHECK.due("state(0)", x.state(0), 3);
        CHECK.due("round(0)", x.round(0), 10);
        CHECK.due("state(1)", x.state(1), 4);
        CHECK.due("round(1)", x.round(1), 11);
        CHECK.due("estimate(1)", x.estimate(1), 1);
        CHECK.due("stamp(1)", x.stamp(1), 10);
        CHECK.due("finished(1)", x.finished(1), 0);
        CHECK.due("state(2)", x.state(2), 4);
        CHECK.due("broadcast of one that is SPENT", x.broadcast(1), 1);
        CHECK.due("state(1)", x.state(1), 4);
        CHECK.due("estimate(1)", x.estimate(1), 1);
        CHECK.due("the last vote", Letters.bring(x, 1, 0, Letters.vote(0, 10, 1)), 4);
        CHECK.due("finished(0)", x.finished(0), 1);
        CHECK.due("state(0)", x.state(0), 0);
        CHECK.due("verdict to one that is SPENT", Letters.bring(x, 0, 1, Letters.verdict(0, 1)), 5);
        CHECK.due("finished(1)", x.finished(1), 1);
        CHECK.due("it opens the next council", x.round(1), 1);
        CHECK.due("estimate(1)", x.estimate(1), 2);
        CHECK.due("stamp(1)", x.stamp(1), 0);
        CHECK.due("2 crashes", x.crash(2, 20), true);
        CHECK.due("state(2)", x.state(2), 5);
        CHECK.due("round of one that crashed SPENT", x.round(2), 11);
        CHECK.due("its estimate", x.estimate(2), 1);
        CHECK.due("its stamp", x.stamp(2), 9);
    }

    private static void finished() {
        CHECK.begin("promise 10");
        CouncilSequence x = CouncilRuns.secondCouncil();
        CHECK.due("finished(0)", x.finished(0), 1);
        CHECK.due("finished(1)", x.finished(1), 1);
        CHECK.due("finished(2)", x.finished(2), 0);
        x.crash(0, 0);
        CHECK.due("of a crashed one", x.finished(0), 1);
        for (int p : NO_SUCH) {
            CHECK.due("finished(" + p + ")", x.finished(p), -1);
        }
        CouncilSequence y = CouncilRuns.eightCouncils();
        for (int p = 0; p < 3; p++) {
            CHECK.due("all councils", y.finished(p), 8);
            CHECK.due("state", y.state(p), 0);
            CHECK.due("round", y.round(p), 0);
        }
    }

    private static void round() {
        CHECK.begin("promise 11");
        CouncilSequence x = new CouncilSequence(5);
        CHECK.due("OUT", x.round(3), 0);
        x.broadcast(3);
        CHECK.due("first", x.round(3), 1);
        x.suspect(3, 0, true);
        CHECK.due("second", x.round(3), 2);
        x.suspect(3, 2, true);
        CHECK.due("second", x.round(3), 2);
        x.suspect(3, 1, true);
        CHECK.due("fourth, its own", x.round(3), 4);
        CHECK.due("GATHER", x.state(3), 1);
        x.crash(3, 0);
        CHECK.due("crashed", x.round(3), 4);
        x.crash(4, 0);
        CHECK.due("crashed OUT", x.round(4), 0);
        for (int p : new int[] {-1, 5, 32, Integer.MIN_VALUE, Integer.MAX_VALUE}) {
            CHECK.due("round(" + p + ")", x.round(p), -1);
        }
    }

    private static void estimateAndStamp() {
        CHECK.begin("promises 12 and 13");
        CouncilSequence x = new CouncilSequence(3);
        x.broadcast(0);
        x.broadcast(1);
        CHECK.due("own", x.estimate(1), 2);
        CHECK.due("own", x.stamp(1), 0);
        Letters.bring(x, 1, 0, Letters.estimate(0, 1, 2, 0));
        CHECK.due("leader's", x.estimate(0), 1);
        CHECK.due("leader's", x.stamp(0), 1);
        Letters.bring(x, 0, 1, Letters.offer(0, 1, 1));
        CHECK.due("of the offer", x.estimate(1), 1);
        CHECK.due("of the offer", x.stamp(1), 1);
        Letters.bring(x, 1, 0, Letters.vote(0, 1, 1));
        CHECK.due("OUT", x.estimate(0), 0);
        CHECK.due("OUT", x.stamp(0), 0);
        x.crash(1, 0);
        CHECK.due("crashed", x.estimate(1), 1);
        CHECK.due("crashed", x.stamp(1), 1);
        for (int p : NO_SUCH) {
            CHECK.due("estimate(" + p + ")", x.estimate(p), -1);
            CHECK.due("stamp(" + p + ")", x.stamp(p), -1);
        }
    }

    private static void known() {
        CHECK.begin("promise 14");
        CouncilSequence x = CouncilRuns.secondCouncil();
        CHECK.due("known(0)", x.known(0), 7);
        CHECK.due("known(1)", x.known(1), 7);
        CHECK.due("known(2)", x.known(2), 0);
        Letters.bring(x, 0, 2, Letters.verdict(0, 1));
        CHECK.due("delivered(2)", x.delivered(2), 1);
        CHECK.due("delivered, not known", x.known(2), 0);
        CHECK.due("NEWS of it", Letters.bring(x, 0, 2, Letters.news(0)), 1);
        CHECK.due("known(2)", x.known(2), 1);
        CHECK.due("it tells all others", x.letter(2, 1, 1), Letters.news(0));
        CHECK.due("but does not open a council", x.state(2), 0);
        x.crash(0, 0);
        CHECK.due("of a crashed one", x.known(0), 7);
        for (int p : NO_SUCH) {
            CHECK.due("known(" + p + ")", x.known(p), -1);
        }
    }

    private static void delivered() {
        CHECK.begin("promises 15 and 16");
        CouncilSequence x = CouncilRuns.secondCouncil();
        Letters.bring(x, 1, 0, Letters.estimate(1, 1, 6, 0));
        Letters.bring(x, 0, 1, Letters.offer(1, 1, 6));
        Letters.bring(x, 1, 0, Letters.vote(1, 1, 1));
        CHECK.due("delivered(0)", x.delivered(0), 3);
        for (int i = 0; i < 3; i++) {
            CHECK.due("deliveredAt(0, " + i + ")", x.deliveredAt(0, i), i);
        }
        CHECK.due("one too far", x.deliveredAt(0, 3), -1);
        CHECK.due("before the first", x.deliveredAt(0, -1), -1);
        CHECK.due("far", x.deliveredAt(0, Integer.MAX_VALUE), -1);
        CHECK.due("far", x.deliveredAt(0, Integer.MIN_VALUE), -1);
        CHECK.due("delivered(1)", x.delivered(1), 1);
        CHECK.due("one too far", x.deliveredAt(1, 1), -1);
        CHECK.due("delivered(2)", x.delivered(2), 0);
        CHECK.due("none", x.deliveredAt(2, 0), -1);
        x.crash(0, 0);
        CHECK.due("of a crashed one", x.delivered(0), 3);
        CHECK.due("of a crashed one", x.deliveredAt(0, 2), 2);
        for (int p : NO_SUCH) {
            CHECK.due("delivered(" + p + ")", x.delivered(p), -1);
            CHECK.due("deliveredAt(" + p + ")", x.deliveredAt(p, 0), -1);
        }
        CouncilSequence y = CouncilRuns.eightCouncils();
        CHECK.due("all", y.delivered(2), 8);
        CHECK.due("the last", y.deliveredAt(2, 7), 7);
        CHECK.due("beyond the last", y.deliveredAt(2, 8), -1);
    }

    private static void verdict() {
        CHECK.begin("promise 17");
        CouncilSequence x = CouncilRuns.secondCouncil();
        CHECK.due("verdict(0, 0)", x.verdict(0, 0), 1);
        CHECK.due("verdict(0, 1)", x.verdict(0, 1), 0);
        CHECK.due("verdict(2, 0)", x.verdict(2, 0), 0);
        Letters.bring(x, 1, 0, Letters.estimate(1, 1, 6, 0));
        Letters.bring(x, 0, 1, Letters.offer(1, 1, 6));
        Letters.bring(x, 1, 0, Letters.vote(1, 1, 1));
        CHECK.due("verdict(0, 1)", x.verdict(0, 1), 6);
        Letters.bring(x, 0, 2, Letters.verdict(1, 6));
        CHECK.due("of a council ahead", x.verdict(2, 1), 6);
        CHECK.due("of its own", x.verdict(2, 0), 0);
        CHECK.due("finished(2)", x.finished(2), 0);
        for (int k : new int[] {-1, 8, 32, Integer.MIN_VALUE, Integer.MAX_VALUE}) {
            CHECK.due("verdict(0, " + k + ")", x.verdict(0, k), -1);
        }
        for (int p : NO_SUCH) {
            CHECK.due("verdict(" + p + ", 0)", x.verdict(p, 0), -1);
        }
        x.crash(0, 0);
        CHECK.due("of a crashed one", x.verdict(0, 1), 6);
        CHECK.due("of the last council", CouncilRuns.eightCouncils().verdict(2, 7), 128);
    }

    private static void majorityAndMessages() {
        CHECK.begin("promises 18 and 19");
        CHECK.due("of 3", new CouncilSequence(3).majority(), 2);
        CHECK.due("of 4", new CouncilSequence(4).majority(), 3);
        CHECK.due("of 5", new CouncilSequence(5).majority(), 3);
        CouncilSequence x = new CouncilSequence(4);
        x.crash(0, 0);
        CHECK.due("after a crash", x.majority(), 3);
        x.broadcast(0);
        x.broadcast(9);
        CHECK.due("none made", x.messages(), 0);
        x.broadcast(1);
        x.broadcast(3);
        CHECK.due("two made", x.messages(), 2);
        x.deliver(1, 2, 0);
        CHECK.due("still two", x.messages(), 2);
    }

    private static void refusedChangesNothing() {
        CHECK.begin("refused calls");
        CouncilSequence x = CouncilRuns.secondCouncil();
        x.suspect(2, 1, true);
        x.crash(1, 1);
        String before = Letters.picture(x, 3);
        x.broadcast(-1);
        x.broadcast(3);
        x.broadcast(1);
        x.deliver(0, 1, 0);
        x.deliver(0, 2, 99);
        x.deliver(0, 2, -1);
        x.deliver(0, 0, 0);
        x.deliver(3, 0, 0);
        x.suspect(1, 0, true);
        x.suspect(2, 2, true);
        x.suspect(2, 3, true);
        x.suspect(-1, 0, true);
        x.crash(1, 20);
        x.crash(0, 20);
        x.crash(-1, 0);
        CHECK.due("picture", Letters.picture(x, 3), before);

        CouncilSequence y = new CouncilSequence(3);
        for (int m = 0; m < 8; m++) {
            y.broadcast(m % 3);
        }
        String full = Letters.picture(y, 3);
        y.broadcast(0);
        y.crash(0, -1);
        y.crash(0, 21);
        CHECK.due("picture", Letters.picture(y, 3), full);
    }
}
