/** How the document writes letters as numbers, and ways to find letters by that number. */
final class Letters {
    private Letters() {
    }

    static int news(int message) {
        return 1 + 1024 * message;
    }

    static int estimate(int council, int round, int batch, int stamp) {
        return 2 + 8 * council + 64 * round + 1024 * batch + 262144 * stamp;
    }

    static int offer(int council, int round, int batch) {
        return 3 + 8 * council + 64 * round + 1024 * batch;
    }

    static int vote(int council, int round, int yes) {
        return 4 + 8 * council + 64 * round + 1024 * yes;
    }

    static int verdict(int council, int batch) {
        return 5 + 8 * council + 1024 * batch;
    }

    /** All letters from one process to another, with blanks between. */
    static String all(CouncilSequence x, int from, int to) {
        StringBuilder text = new StringBuilder();
        int count = x.letters(from, to);
        for (int j = 0; j < count; j++) {
            text.append(j == 0 ? "" : " ").append(x.letter(from, to, j));
        }
        return text.toString();
    }

    static String row(int... letters) {
        StringBuilder text = new StringBuilder();
        for (int j = 0; j < letters.length; j++) {
            text.append(j == 0 ? "" : " ").append(letters[j]);
        }
        return text.toString();
    }

    /**
     * Delivers the letter that is written so; answers what deliver does, 0 if none waits. No letter
     * is sent twice from one process to another, and the latest ones are asked for most often.
     */
    static int bring(CouncilSequence x, int from, int to, int letter) {
        for (int j = x.letters(from, to) - 1; j >= 0; j--) {
            if (x.letter(from, to, j) == letter) {
                return x.deliver(from, to, j);
            }
        }
        return 0;
    }

    /** The same for a letter of which the batch and the stamp need not be told. */
    static int bring(CouncilSequence x, int from, int to, int kind, int council, int round) {
        int head = kind + 8 * council + 64 * round;
        for (int j = x.letters(from, to) - 1; j >= 0; j--) {
            if (x.letter(from, to, j) % 1024 == head) {
                return x.deliver(from, to, j);
            }
        }
        return 0;
    }

    /** Whether such a letter waits, whatever its batch and stamp. */
    static boolean waits(CouncilSequence x, int from, int to, int kind, int council, int round) {
        int head = kind + 8 * council + 64 * round;
        for (int j = x.letters(from, to) - 1; j >= 0; j--) {
            if (x.letter(from, to, j) % 1024 == head) {
                return true;
            }
        }
        return false;
    }

    /** All that can be asked of an object of n processes, as a text. */
    static String picture(CouncilSequence x, int n) {
        StringBuilder text = new StringBuilder();
        text.append(x.messages()).append('/').append(x.majority());
        for (int p = 0; p < n; p++) {
            text.append("\n").append(p).append(": ").append(x.state(p)).append(' ').append(x.finished(p));
            text.append(' ').append(x.round(p)).append(' ').append(x.estimate(p)).append(' ').append(x.stamp(p));
            text.append(' ').append(x.known(p)).append(" delivered");
            for (int i = 0; i < x.delivered(p); i++) {
                text.append(' ').append(x.deliveredAt(p, i));
            }
            text.append(" verdicts");
            for (int k = 0; k < 8; k++) {
                text.append(' ').append(x.verdict(p, k));
            }
            for (int q = 0; q < n; q++) {
                if (q != p) {
                    text.append(x.suspects(p, q) ? " !" : " ").append(q).append(" [").append(all(x, p, q)).append(']');
                }
            }
        }
        return text.toString();
    }
}
