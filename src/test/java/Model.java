import java.util.ArrayList;
import java.util.HashMap;
import java.util.List;
import java.util.Map;
import java.util.TreeMap;
import java.util.TreeSet;

/** The document written a second time, as plainly as can be and in another way than the program. */
final class Model {
    enum Kind { NONE, NEWS, ESTIMATE, OFFER, VOTE, VERDICT }

    enum State { OUT, GATHER, AWAIT, COUNT, SPENT }

    record Letter(long sent, int from, int to, Kind kind, int council, int round, int word, int stamp) {
        int asNumber() {
            return kind.ordinal() + 8 * council + 64 * round + 1024 * word + 262144 * stamp;
        }
    }

    private static final class Actor {
        final TreeSet<Integer> knows = new TreeSet<>();
        final List<Integer> hasDelivered = new ArrayList<>();
        final TreeSet<Integer> suspected = new TreeSet<>();
        final Map<Integer, Integer> verdicts = new HashMap<>();
        final List<Letter> kept = new ArrayList<>();
        State state = State.OUT;
        int done;
        int round;
        int estimate;
        int stamp;
        boolean crashed;
    }

    final int n;
    private final List<Actor> actors = new ArrayList<>();
    private final List<Letter> waiting = new ArrayList<>();
    private long clock;
    private int made;
    /** How often each step was taken, so that a test can see what its runs came to. */
    final Map<String, Integer> seen = new TreeMap<>();

    Model(int n) {
        this.n = n < 3 ? 3 : n > 5 ? 5 : n;
        for (int p = 0; p < this.n; p++) {
            actors.add(new Actor());
        }
    }

    private boolean isThere(int p) {
        return 0 <= p && p < n;
    }

    private void note(String what) {
        seen.merge(what, 1, Integer::sum);
    }

    private static TreeSet<Integer> asSet(int batch) {
        TreeSet<Integer> set = new TreeSet<>();
        for (int m = 0; m < 8; m++) {
            if ((batch & 1 << m) != 0) {
                set.add(m);
            }
        }
        return set;
    }

    private static int asBatch(Iterable<Integer> set) {
        int batch = 0;
        for (int m : set) {
            batch += 1 << m;
        }
        return batch;
    }

    int broadcast(int p) {
        if (!isThere(p)) {
            return -1;
        }
        if (actors.get(p).crashed) {
            return -2;
        }
        if (made == 8) {
            note("broadcast -3");
            return -3;
        }
        int message = made++;
        actors.get(p).knows.add(message);
        toAllOthers(p, Kind.NEWS, 0, 0, message, 0);
        goOn(p);
        return message;
    }

    int deliver(int from, int to, int j) {
        if (!isThere(from) || !isThere(to) || from == to) {
            return -1;
        }
        if (actors.get(to).crashed) {
            note("deliver -2");
            return -2;
        }
        List<Letter> between = between(from, to);
        if (j < 0 || j >= between.size()) {
            return -3;
        }
        Letter letter = between.get(j);
        waiting.remove(letter);
        if (actors.get(from).crashed) {
            note("letter of a crashed one");
        }
        receive(to, letter);
        goOn(to);
        return letter.kind().ordinal();
    }

    boolean suspect(int p, int q, boolean on) {
        if (!isThere(p) || !isThere(q) || p == q || actors.get(p).crashed) {
            return false;
        }
        if (on) {
            actors.get(p).suspected.add(q);
        } else {
            actors.get(p).suspected.remove(q);
        }
        goOn(p);
        return true;
    }

    boolean crash(int p, int lost) {
        long crashed = actors.stream().filter(a -> a.crashed).count();
        if (!isThere(p) || actors.get(p).crashed || crashed >= (n - 1) / 2 || lost < 0 || lost > 20) {
            return false;
        }
        actors.get(p).crashed = true;
        note("crash in " + actors.get(p).state);
        List<Letter> own = new ArrayList<>(waiting.stream().filter(l -> l.from() == p).toList());
        own.sort((a, b) -> Long.compare(b.sent(), a.sent()));
        note(own.size() > lost ? "crash leaves letters" : "crash takes all letters");
        waiting.removeAll(own.subList(0, Math.min(lost, own.size())));
        return true;
    }

    int letters(int from, int to) {
        return isThere(from) && isThere(to) ? between(from, to).size() : -1;
    }

    int letter(int from, int to, int j) {
        if (!isThere(from) || !isThere(to) || j < 0 || j >= between(from, to).size()) {
            return 0;
        }
        return between(from, to).get(j).asNumber();
    }

    boolean suspects(int p, int q) {
        return isThere(p) && actors.get(p).suspected.contains(q);
    }

    int state(int p) {
        if (!isThere(p)) {
            return -1;
        }
        return actors.get(p).crashed ? 5 : actors.get(p).state.ordinal();
    }

    int finished(int p) {
        return isThere(p) ? actors.get(p).done : -1;
    }

    int round(int p) {
        if (!isThere(p)) {
            return -1;
        }
        Actor a = actors.get(p);
        return a.state == State.OUT ? 0 : a.state == State.SPENT ? 11 : a.round;
    }

    int estimate(int p) {
        if (!isThere(p)) {
            return -1;
        }
        return actors.get(p).state == State.OUT ? 0 : actors.get(p).estimate;
    }

    int stamp(int p) {
        if (!isThere(p)) {
            return -1;
        }
        return actors.get(p).state == State.OUT ? 0 : actors.get(p).stamp;
    }

    int known(int p) {
        return isThere(p) ? asBatch(actors.get(p).knows) : -1;
    }

    int delivered(int p) {
        return isThere(p) ? actors.get(p).hasDelivered.size() : -1;
    }

    int deliveredAt(int p, int i) {
        if (!isThere(p) || i < 0 || i >= actors.get(p).hasDelivered.size()) {
            return -1;
        }
        return actors.get(p).hasDelivered.get(i);
    }

    int verdict(int p, int k) {
        return isThere(p) && k >= 0 && k <= 7 ? actors.get(p).verdicts.getOrDefault(k, 0) : -1;
    }

    int majority() {
        return n / 2 + 1;
    }

    int messages() {
        return made;
    }

    /** Whether no letter waits that could be delivered. */
    boolean quiet() {
        return waiting.stream().allMatch(l -> actors.get(l.to()).crashed);
    }

    private List<Letter> between(int from, int to) {
        return waiting.stream().filter(l -> l.from() == from && l.to() == to)
            .sorted((a, b) -> Long.compare(a.sent(), b.sent())).toList();
    }

    private void send(int from, int to, Kind kind, int council, int round, int word, int stamp) {
        waiting.add(new Letter(clock++, from, to, kind, council, round, word, stamp));
    }

    private void toAllOthers(int from, Kind kind, int council, int round, int word, int stamp) {
        for (int to = 0; to < n; to++) {
            if (to != from) {
                send(from, to, kind, council, round, word, stamp);
            }
        }
    }

    private void receive(int p, Letter letter) {
        Actor a = actors.get(p);
        if (letter.kind() == Kind.NEWS) {
            if (a.knows.add(letter.word())) {
                toAllOthers(p, Kind.NEWS, 0, 0, letter.word(), 0);
            }
        } else if (letter.kind() == Kind.VERDICT) {
            if (a.verdicts.putIfAbsent(letter.council(), letter.word()) == null) {
                toAllOthers(p, Kind.VERDICT, letter.council(), 0, letter.word(), 0);
                if (letter.council() > a.done) {
                    note("verdict of a council ahead");
                }
                if (a.state == State.SPENT) {
                    note("verdict when SPENT");
                }
            }
        } else {
            a.kept.add(letter);
        }
    }

    private List<Letter> keptNow(Actor a, Kind kind) {
        return a.kept.stream()
            .filter(l -> l.kind() == kind && l.council() == a.done && l.round() == a.round).toList();
    }

    private void keepOwn(int p, Kind kind, int word, int stamp) {
        Actor a = actors.get(p);
        a.kept.add(new Letter(clock++, p, p, kind, a.done, a.round, word, stamp));
    }

    private void goOn(int p) {
        Actor a = actors.get(p);
        while (true) {
            if (a.verdicts.containsKey(a.done)) {
                stepA(a);
            } else if (a.state == State.OUT && !undelivered(a).isEmpty()) {
                note("b");
                a.estimate = asBatch(undelivered(a));
                a.stamp = 0;
                enter(p, 1);
            } else if (a.state == State.GATHER && keptNow(a, Kind.ESTIMATE).size() >= majority()) {
                stepC(p, a);
            } else if (a.state == State.AWAIT && !keptNow(a, Kind.OFFER).isEmpty()) {
                stepD(p, a);
            } else if (a.state == State.AWAIT && a.suspected.contains((a.round - 1) % n)) {
                note("e");
                send(p, (a.round - 1) % n, Kind.VOTE, a.done, a.round, 0, 0);
                enter(p, a.round + 1);
            } else if (a.state == State.COUNT && keptNow(a, Kind.VOTE).size() >= majority()) {
                stepF(p, a);
            } else {
                return;
            }
        }
    }

    private static TreeSet<Integer> undelivered(Actor a) {
        TreeSet<Integer> set = new TreeSet<>(a.knows);
        set.removeAll(a.hasDelivered);
        return set;
    }

    private void stepA(Actor a) {
        note("a in " + a.state);
        TreeSet<Integer> batch = asSet(a.verdicts.get(a.done));
        batch.removeAll(a.hasDelivered);
        note(batch.size() > 1 ? "a with several messages" : "a with one message");
        a.hasDelivered.addAll(batch);
        a.done++;
        a.state = State.OUT;
        note("finished " + a.done);
    }

    private void stepC(int p, Actor a) {
        List<Letter> had = new ArrayList<>(keptNow(a, Kind.ESTIMATE));
        had.sort((one, two) -> one.stamp() != two.stamp() ? two.stamp() - one.stamp() : one.from() - two.from());
        Letter best = had.get(0);
        note(best.from() == p ? "c takes its own" : "c takes another's");
        if (best.word() != a.estimate) {
            note("c changes the batch");
        }
        a.estimate = best.word();
        a.stamp = a.round;
        toAllOthers(p, Kind.OFFER, a.done, a.round, a.estimate, 0);
        keepOwn(p, Kind.VOTE, 1, 0);
        a.state = State.COUNT;
    }

    private void stepD(int p, Actor a) {
        note(a.suspected.contains((a.round - 1) % n) ? "d in spite of suspicion" : "d");
        a.estimate = keptNow(a, Kind.OFFER).get(0).word();
        a.stamp = a.round;
        send(p, (a.round - 1) % n, Kind.VOTE, a.done, a.round, 1, 0);
        enter(p, a.round + 1);
    }

    private void stepF(int p, Actor a) {
        if (keptNow(a, Kind.VOTE).stream().allMatch(l -> l.word() == 1)) {
            note("f yes");
            a.verdicts.put(a.done, a.estimate);
            toAllOthers(p, Kind.VERDICT, a.done, 0, a.estimate, 0);
        } else {
            note("f no");
            enter(p, a.round + 1);
        }
    }

    private void enter(int p, int r) {
        Actor a = actors.get(p);
        if (r == 11) {
            note("SPENT");
            a.state = State.SPENT;
            return;
        }
        a.round = r;
        int leader = (r - 1) % n;
        if (p == leader) {
            keepOwn(p, Kind.ESTIMATE, a.estimate, a.stamp);
            a.state = State.GATHER;
        } else {
            send(p, leader, Kind.ESTIMATE, a.done, r, a.estimate, a.stamp);
            a.state = State.AWAIT;
        }
    }
}
