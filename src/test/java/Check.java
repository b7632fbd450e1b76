/** Counts the answers that are not as due, and tells them. */
final class Check {
    private static final int MOST_TOLD = 40;
    private final String title;
    private String part = "";
    private int asked;
    private int wrong;

    Check(String title) {
        this.title = title;
    }

    void begin(String name) {
        part = name;
    }

    /** A sentence of the document, and what of it is tested. */
    void begin(String sentence, String what) {
        part = "\"" + sentence + "\", " + what;
    }

    void due(String call, long got, long want) {
        asked++;
        if (got != want) {
            tell(call + " answered " + got + ", due is " + want);
        }
    }

    void due(String call, boolean got, boolean want) {
        asked++;
        if (got != want) {
            tell(call + " answered " + got + ", due is " + want);
        }
    }

    void due(String call, String got, String want) {
        asked++;
        if (!got.equals(want)) {
            tell(call + " answered " + got + ", due is " + want);
        }
    }

    boolean allRight() {
        return wrong == 0;
    }

    void end() {
        System.out.println(title + ": " + asked + " answers, " + wrong + " not as due");
        if (wrong != 0 || asked == 0) {
            System.exit(1);
        }
    }

    private void tell(String text) {
        wrong++;
        if (wrong <= MOST_TOLD) {
            System.out.println(title + ", " + part + ": " + text);
        }
    }
}
