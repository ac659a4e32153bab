/** Counts the answers of a test that are not the ones that are due. */
final class Check {
    private final String test;
    private int asked = 0;
    private int wrong = 0;

    Check(String test) {
        this.test = test;
    }

    void due(String call, long got, long want) {
        asked++;
        if (got != want) {
            wrong++;
            System.out.println(test + ": " + call + " answered " + got + ", due is " + want);
        }
    }

    void due(String call, String got, String want) {
        asked++;
        if (!got.equals(want)) {
            wrong++;
            System.out.println(test + ": " + call + " answered " + got + ", due is " + want);
        }
    }

    void holds(String what, boolean so) {
        due(what, so ? 1 : 0, 1);
    }

    void end() {
        System.out.println(test + ": " + asked + " answers, " + wrong + " not as due");
        if (wrong != 0 || asked == 0) {
            System.exit(1);
        }
    }

    static RenameGraph of(String text) {
        RenameGraph x = new RenameGraph();
        tell(x, text);
        return x;
    }

    static void tell(RenameGraph x, String text) {
        for (int k = 0; k < text.length(); k++) {
            x.type(text.charAt(k));
        }
    }

    static String textOf(RenameGraph x) {
        StringBuilder b = new StringBuilder();
        for (int k = 0; k < x.count(0); k++) {
            b.append((char) x.shown(k));
        }
        return b.toString();
    }

    /** A refusal where the answer is a long. */
    static long refused(int refusal) {
        return Long.MIN_VALUE - refusal;
    }

    static long bits(int... nodes) {
        long all = 0;
        for (int n : nodes) {
            all |= 1L << n;
        }
        return all;
    }
}
