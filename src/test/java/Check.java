import java.util.function.Consumer;
import java.util.function.ToLongFunction;

/** Counts the answers of a test that are not the ones that are due. */
final class Check {
    private final String test;
    private String sentence = "";
    private int asked = 0;
    private int wrong = 0;

    Check(String test) {
        this.test = test;
    }

    /** The words of the document that the next answers belong to. */
    void sentence(String words) {
        sentence = " \"" + words + "\"";
    }

    void due(String call, long got, long want) {
        asked++;
        if (got != want) {
            tellWrong(call, "" + got, "" + want);
        }
    }

    void due(String call, String got, String want) {
        asked++;
        if (!got.equals(want)) {
            tellWrong(call, got, want);
        }
    }

    void holds(String what, boolean so) {
        due(what, so ? 1 : 0, 1);
    }

    private void tellWrong(String call, String got, String want) {
        wrong++;
        System.out.println(test + sentence + ": " + call + " answered " + got + ", due is " + want);
    }

    /** A call that is refused: its answer, and that all is as it was; the latest finding, too. */
    void refuses(String call, Consumer<RenameGraph> past, ToLongFunction<RenameGraph> act, long want) {
        leaves(call, past, act, want, 0);
        leaves(call, past.andThen(x -> x.sheet(0, 0, -1)), act, want, 0);
    }

    /** A call with a finding: its answer, its number in count(8), and that all else is as it was. */
    void finds(String call, Consumer<RenameGraph> past, ToLongFunction<RenameGraph> act, long want, int finding) {
        leaves(call, past, act, want, finding);
        leaves(call, past.andThen(x -> x.sheet(0, 0, -1)), act, want, finding);
    }

    private void leaves(
            String call, Consumer<RenameGraph> past, ToLongFunction<RenameGraph> act, long want, int finding) {
        RenameGraph x = new RenameGraph();
        past.accept(x);
        int latest = x.count(8);
        due(call, act.applyAsLong(x), want);
        due("count(8) behind " + call, x.count(8), finding > 0 ? finding : latest);
        due("the state behind " + call, State.unlike(past, past.andThen(y -> act.applyAsLong(y))), "");
    }

    void end() {
        System.out.println(test + ": " + asked + " answers, " + wrong + " not as due");
        if (wrong != 0 || asked == 0) {
            System.exit(1);
        }
    }

    static RenameGraph of(String text) {
        RenameGraph x = new RenameGraph();
        tell(x, text);
        return x;
    }

    static void tell(RenameGraph x, String text) {
        for (int k = 0; k < text.length(); k++) {
            x.type(text.charAt(k));
        }
    }

    static String textOf(RenameGraph x) {
        StringBuilder b = new StringBuilder();
        for (int k = 0; k < x.count(0); k++) {
            b.append((char) x.shown(k));
        }
        return b.toString();
    }

    /** A refusal where the answer is a long. */
    static long refused(int refusal) {
        return Long.MIN_VALUE - refusal;
    }

    static long bits(int... nodes) {
        long all = 0;
        for (int n : nodes) {
            all |= 1L << n;
        }
        return all;
    }
}
