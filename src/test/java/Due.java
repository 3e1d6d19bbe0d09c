/** Counts the answers of one test that are not as due, and prints them. */
final class Due {
    private int asked = 0;
    private int wrong = 0;

    void is(String call, long got, long want) {
        asked++;
        if (got != want) {
            wrong++;
            System.out.println(call + " answered " + got + ", due is " + want);
        }
    }

    void found(PlacePoints x, int i, int want) {
        is("found(" + i + ")", foundOr(x, i, Long.MIN_VALUE), want);
    }

    void foundThrows(PlacePoints x, int i) {
        is("found(" + i + "), where the least long stands for its exception", foundOr(x, i, Long.MIN_VALUE), Long.MIN_VALUE);
    }

    /** The answer of found, or the stand-in when it throws the very exception that the document names. */
    static long foundOr(PlacePoints x, int i, long standIn) {
        try {
            return x.found(i);
        } catch (ArrayIndexOutOfBoundsException e) {
            if (e.getClass() != ArrayIndexOutOfBoundsException.class) {
                throw e;
            }
            return standIn;
        }
    }

    void end() {
        System.out.println(asked + " answers, " + wrong + " not as due");
        if (wrong != 0 || asked == 0) {
            System.exit(1);
        }
    }
}
