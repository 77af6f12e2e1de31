/** Compares answers with those that are due, for the tests of this project. */
final class Due {
    private static int wrong = 0;
    private static String sentence = "";

    private Due() {
    }

    /** The document's words that the answers from here on hold to; told with each wrong answer. */
    static void sentence(String words) {
        sentence = words;
    }

    static void due(String call, long got, long want) {
        if (got != want) {
            wrong++;
            System.out.println(call + " answered " + got + ", due is " + want
                + (sentence.isEmpty() ? "" : "; broken: \"" + sentence + "\""));
        }
    }

    /** The bin into which an item came; -1 if it is in none. */
    static int binOf(GateTimes x, int item) {
        int i = 0;
        while (x.out(i, 0) != -1 && x.out(i, 0) != item) {
            i++;
        }
        return x.out(i, 1);
    }

    /** Ends a test: with exit code 1 if an answer was not the one that is due. */
    static void end() {
        if (wrong != 0) {
            System.out.println(wrong + " answers are not as due");
            System.exit(1);
        }
    }
}
