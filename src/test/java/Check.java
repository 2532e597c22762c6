/** Counts the answers that are not as due, for the tests of the project. */
final class Check {
    private int wrong = 0;
    private int asked = 0;

    void due(String call, long got, long want) {
        asked++;
        if (got != want) {
            wrong++;
            System.out.println(call + " answered " + got + ", due is " + want);
        }
    }

    void due(String call, boolean got, boolean want) {
        due(call, got ? 1 : 0, want ? 1 : 0);
    }

    void due(String call, String got, String want) {
        asked++;
        if (!got.equals(want)) {
            wrong++;
            System.out.println(call + " answered \"" + got + "\", due is \"" + want + "\"");
        }
    }

    boolean anyWrong() {
        return wrong > 0;
    }

    void finish() {
        System.out.println(asked + " answers asked, " + wrong + " not as due");
        if (wrong > 0) {
            System.exit(1);
        }
    }

    /** What an object has printed last, read by at. */
    static String printed(DemandTerms x) {
        StringBuilder text = new StringBuilder();
        for (int i = 0; x.at(i) != DemandTerms.NONE; i++) {
            text.append((char) x.at(i));
        }
        return text.toString();
    }
}
