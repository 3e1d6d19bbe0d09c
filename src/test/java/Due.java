/** Counts the answers of one test that are not as due, and prints them. */
final class Due {
    /** Stands for the exception of found in answers; no call of the face answers it. */
    static final long THROWS = Long.MIN_VALUE;

    private int asked = 0;
    private int wrong = 0;
    private String sentence = "";
    private int askedBefore = -1;

    /** What is asked from here on tests this sentence of the document. */
    void sentence(String words) {
        endSentence();
        sentence = words;
        askedBefore = asked;
    }

    void is(String call, long got, long want) {
        asked++;
        if (got != want) {
            wrong++;
            System.out.println((sentence.isEmpty() ? "" : "\"" + sentence + "\": ") + call + " answered " + got + ", due is " + want);
        }
    }

    void end() {
        endSentence();
        System.out.println(asked + " answers, " + wrong + " not as due");
        if (wrong != 0 || asked == 0) {
            System.exit(1);
        }
    }

    private void endSentence() {
        if (asked == askedBefore) {
            wrong++;
            System.out.println("\"" + sentence + "\" is not tested");
        }
    }
}
