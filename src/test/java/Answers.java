/** Counts the answers of a test, prints those that are not as due, and ends the test. */
final class Answers {
    private static final int MOST_PRINTED = 40;
    private static final int PROMISES = 35;

    private final boolean[] named = new boolean[PROMISES + 1];
    private int promise;
    private String words = "";
    private int sentences;
    private int asked;
    private int wrong;

    /** What is asked from here on tests this sentence of the document, which binds this promise. */
    void sentence(int ofPromise, String said) {
        promise = ofPromise;
        words = said;
        named[promise] = true;
        sentences++;
    }

    void due(String call, long got, long want) {
        due(promise, call, got, want);
    }

    void due(String call, boolean got, boolean want) {
        due(promise, call, got ? 1 : 0, want ? 1 : 0);
    }

    void due(int ofPromise, String call, boolean got, boolean want) {
        due(ofPromise, call, got ? 1 : 0, want ? 1 : 0);
    }

    void due(int ofPromise, String call, long got, long want) {
        asked++;
        if (got != want) {
            tell(ofPromise, call + " answered " + got + ", due is " + want);
        }
    }

    void same(String call, String got, String want) {
        asked++;
        if (!got.equals(want)) {
            tell(promise, call + " showed " + got + ", due is " + want);
        }
    }

    private void tell(int ofPromise, String what) {
        wrong++;
        if (wrong <= MOST_PRINTED) {
            System.out.println("promise " + ofPromise + (words.isEmpty() ? "" : " \"" + words + "\"") + ": " + what);
        }
    }

    boolean names(int ofPromise) {
        return named[ofPromise];
    }

    void end() {
        System.out.println((sentences > 0 ? sentences + " sentences, " : "") + asked + " answers, " + wrong
            + " not as due");
        if (wrong != 0) {
            System.exit(1);
        }
    }
}
