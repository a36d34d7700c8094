/** Counts the calls whose answer is not the one that is due. */
final class Check {
    static final int BEYOND = -100001;
    static final int MISSING = -100002;
    static final int SIZE = -100003;
    static final int KIND = -100004;
    static final int FULL = -100005;
    static final int NONE = -100006;

    private int asked = 0;
    private int wrong = 0;
    private String sentence = "";

    /** The sentence of the document that the next answers are asked for: promise 0 is the Terms. */
    void says(int promise, String words) {
        sentence = promise + " \"" + words + "\" ";
    }

    void due(String call, int got, int want) {
        asked++;
        if (got != want) {
            wrong++;
            System.out.println(sentence + call + " answered " + got + ", due is " + want);
        }
    }

    void that(String what, boolean holds) {
        due(what, holds ? 1 : 0, 1);
    }

    /** Ends the program with 1 if an answer was wrong. */
    void end() {
        System.out.println(asked + " answers, " + wrong + " wrong");
        if (wrong != 0) {
            System.exit(1);
        }
    }
}
