/** Counts the answers that are not as due, for the tests of the project. */
final class Check {
    private String subject = "";
    private int wrong = 0;
    private int asked = 0;

    /** What the next calls are a test of: it is told with each wrong answer. */
    void subject(String newSubject) {
        subject = newSubject + ": ";
    }

    void due(String call, long got, long want) {
        due(call, got == want, Long.toString(got), Long.toString(want));
    }

    void due(String call, boolean got, boolean want) {
        due(call, got == want, Boolean.toString(got), Boolean.toString(want));
    }

    void due(String call, String got, String want) {
        due(call, got.equals(want), "\"" + got + "\"", "\"" + want + "\"");
    }

    private void due(String call, boolean right, String got, String want) {
        asked++;
        if (!right) {
            wrong++;
            System.out.println(subject + call + " answered " + got + ", due is " + want);
        }
    }

    void duePrint(String what, DemandTerms x, int k, String want) {
        due(what + ": print(" + k + ")", x.print(k), want.length());
        due(what + ": at of print(" + k + ")", printed(x), want);
    }

    boolean anyWrong() {
        return wrong > 0;
    }

    void finish() {
        System.out.println(asked + " answers asked, " + wrong + " not as due");
        if (wrong > 0) {
            System.exit(1);
        }
    }

    /** An object with names of so many versions. */
    static DemandTerms with(int... versions) {
        DemandTerms x = new DemandTerms();
        for (int n : versions) {
            x.versions(n);
        }
        return x;
    }

    /** What an object has printed last, read by at. */
    static String printed(DemandTerms x) {
        StringBuilder text = new StringBuilder();
        int sign = x.at(0);
        while (sign != DemandTerms.NONE) {
            text.append((char) sign);
            sign = x.at(text.length());
        }
        return text.toString();
    }

    /**
     * Numbers that 0 .. size - 1 doesn't have: the next ones, the ends of int, and those that would come back into
     * the range if a shift (32, 64, -32), a product with 16 (1 << 28) or a narrower type (1 << 16) cut them.
     */
    static int[] outside(int size) {
        int[] far = {16, 32, 48, 64, 256, 300, 400, 600, 1 << 16, 1 << 28, -16, -32, -64, -1 << 28};
        int count = 0;
        int[] found = new int[far.length + 6];
        for (int number : new int[] {-1, size, size + 1, Integer.MIN_VALUE, Integer.MIN_VALUE + 1, Integer.MAX_VALUE}) {
            found[count++] = number;
        }
        for (int number : far) {
            if (number < 0 || number > size + 1) {
                found[count++] = number;
            }
        }
        return java.util.Arrays.copyOf(found, count);
    }

    /** All that can be seen of an object by calls that change nothing: a refused call leaves it as it was. */
    static String look(DemandTerms x) {
        StringBuilder text = new StringBuilder("printed ").append(printed(x));
        for (int name = 0; x.chosen(name, 0) != DemandTerms.NONE; name++) {
            text.append("; name ").append(x.chosen(name, 0)).append(' ').append(x.chosen(name, 1)).append(' ').append(x.chosenSet(name));
        }
        for (int term = 0; x.about(term, 0) != DemandTerms.NONE; term++) {
            text.append("; term ").append(x.about(term, 0)).append(' ').append(x.about(term, 1)).append(' ').append(x.set(term));
        }
        for (int k = 0; k < x.count(); k++) {
            text.append("; clash ").append(x.state(k));
            for (int i = 0; i < x.terms(k); i++) {
                text.append(", ").append(x.part(k, i, 0)).append(' ').append(x.part(k, i, 1)).append(' ').append(x.partSet(k, i));
            }
        }
        return text.toString();
    }
}
