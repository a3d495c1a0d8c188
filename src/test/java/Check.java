/**
 * Counts the answers that are not as due, told by the document's sentence that asks for them; a
 * test ends with exit code 1 if there was one, or if a sentence was told and nothing asked of it.
 */
final class Check {
    static final int BEYOND = -1000001;
    static final int FULL = -1000002;
    static final int KIND = -1000003;
    static final int NONE = -1000004;
    static final int STATE = -1000005;
    static final int MISSING = -1000006;
    static final int SIZE = -1000007;

    private String sentence = "";
    private int sentences = 0;
    private int askedOfSentence = 1;
    private int wrong = 0;
    private int asked = 0;

    /** What is asked from here to the next such call is the test of this sentence of the document. */
    void says(String words) {
        endSentence();
        sentence = words;
        sentences++;
        askedOfSentence = 0;
    }

    void due(String what, long got, long want) {
        asked++;
        askedOfSentence++;
        if (got != want) {
            wrong++;
            System.out.println("\"" + sentence + "\": " + what + " answered " + got + ", due is " + want);
        }
    }

    void yes(String what, boolean so) {
        due(what, so ? 1 : 0, 1);
    }

    /** That two hills of so many sheep are alike in all that stands there. */
    void alike(StraySheep x, StraySheep y, int sheep) {
        for (int what = 0; what < 8; what++) {
            due("count(" + what + ")", x.count(what), y.count(what));
        }
        for (int what = 0; what < 5; what++) {
            due("hill(" + what + ")", x.hill(what), y.hill(what));
        }
        for (int s = 0; s < sheep; s++) {
            for (int what = 0; what < 5; what++) {
                due("of(" + s + ", " + what + ")", x.of(s, what), y.of(s, what));
            }
        }
    }

    static boolean isFinding(long answer) {
        return answer <= BEYOND && answer >= SIZE;
    }

    void end() {
        endSentence();
        if (asked == 0 || wrong != 0) {
            System.out.println(wrong + " of " + asked + " answers are not as due");
            System.exit(1);
        }
        System.out.println(asked + " answers are as due" + (sentences > 0 ? ", of " + sentences + " sentences" : ""));
    }

    private void endSentence() {
        if (askedOfSentence == 0) {
            wrong++;
            System.out.println("\"" + sentence + "\": nothing was asked");
        }
    }
}
