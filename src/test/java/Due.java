/** Counts the answers of one test that are not as due, and prints them. */
final class Due {
    /** Stands for the exception of found in answers; no call of the face answers it. */
    static final long THROWS = Long.MIN_VALUE;

    private int asked = 0;
    private int wrong = 0;
    private String sentence = "";

    /** Runs the test of one sentence of the document; what it throws is as wrong as an answer that is not due. */
    void sentence(String words, Runnable test) {
        sentence = words;
        int askedBefore = asked;
        try {
            test.run();
        } catch (RuntimeException e) {
            wrong++;
            System.out.println("\"" + words + "\": threw " + e);
            e.printStackTrace(System.out);
        }
        is("the number of its answers is 0:", asked == askedBefore ? 1 : 0, 0);
        sentence = "";
    }

    void is(String call, long got, long want) {
        asked++;
        if (got != want) {
            wrong++;
            System.out.println((sentence.isEmpty() ? "" : "\"" + sentence + "\": ") + call + " answered " + got + ", due is " + want);
        }
    }

    void end() {
        System.out.println(asked + " answers, " + wrong + " not as due");
        if (wrong != 0 || asked == 0) {
            System.exit(1);
        }
    }
}
