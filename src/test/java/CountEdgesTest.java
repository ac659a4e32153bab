import java.math.BigInteger;
import java.util.ArrayList;
import java.util.List;

/** The edges that the document names for counts and the digest (promises 28 and 29), each sentence by itself. */
public final class CountEdgesTest {
    private static final int BAD = RenameGraph.BAD, LEAST = Integer.MIN_VALUE, MOST = Integer.MAX_VALUE;
    private static final String LETTERS = "abcdefghijklmnopqrstuvwxyz";
    private static final String ALL_DECLARED = "+" + String.join("+", LETTERS.split(""));
    private static final String FULL = "{}".repeat(9) + "^^^a".repeat(20) + "+a";
    private static final Check check = new Check("CountEdgesTest");

    public static void main(String[] args) {
        countsOfNothing();
        countsOfTheFull();
        countsWithAFault();
        families();
        known();
        countRefused();
        digestByHand();
        digestUpToForty();
        digestWraps();
        digestOfAFault();
        digestOfSixty();
        digestChangesNothing();
        check.end();
    }

    private static void counts(String text, int... due) {
        RenameGraph x = Check.of(text);
        for (int what = 0; what < due.length; what++) {
            check.due("count(" + what + ") of '" + text + "'", x.count(what), due[what]);
        }
    }

    // ---- promise 28

    private static void countsOfNothing() {
        check.sentence("2 SCOPES (one at least), 8 the number of the latest FINDING (0 before any)");
        counts("", 0, 0, 1, 0, 0, 0, 0, 0, 0);
        counts("{}", 2, 0, 2, 0, 0, 0, 0, 0, 0);
        counts("a", 1, 1, 1, 0, 1, 0, 0, 0, 0);
        counts("+a", 2, 1, 1, 1, 0, 1, 1, 0, 0);
        counts("+aa", 3, 2, 1, 1, 0, 1, 0, 0, 0);
    }

    private static void countsOfTheFull() {
        check.sentence("0 bytes, 1 NODES, 2 SCOPES, 3 DECLARATIONS, 4 UNBOUND USES (as many as may be)");
        counts(FULL, 100, 21, 10, 1, 20, 1, 1, 0, 0);
        counts("a".repeat(60), 60, 60, 1, 0, 60, 0, 0, 0, 0);
        counts("{}".repeat(9), 18, 0, 10, 0, 0, 0, 0, 0, 0);
        // 44 declarations, each of a family by itself
        String many = ALL_DECLARED + "{" + ALL_DECLARED.substring(0, 36) + "}";
        counts(many, 90, 44, 2, 44, 0, 44, 44, 0, 0);
        counts("a".repeat(59) + "+a", 61, 60, 1, 1, 0, 1, 0, 0, 0);
    }

    private static void countsWithAFault() {
        check.sentence("With a FAULT it is as if it was empty (counts)");
        counts("+ab{", 4, 0, 1, 0, 0, 0, 0, 0, 0);
        counts("a".repeat(61), 61, 0, 1, 0, 0, 0, 0, 0, 0);
        counts("{}".repeat(10), 20, 0, 1, 0, 0, 0, 0, 0, 0);
        counts(FULL.substring(0, 99), 99, 0, 1, 0, 0, 0, 0, 0, 0);
    }

    private static void families() {
        check.sentence("5 FAMILIES, 6 IDLE ones");
        counts("{+a}{<1+a}", 10, 2, 3, 2, 0, 1, 2, 0, 0);
        counts("{+a}{<1+b}", 10, 2, 3, 2, 0, 2, 2, 0, 0);
        counts("{+a}{<1+aa}{<1a}", 16, 4, 4, 2, 0, 1, 0, 0, 0);
        counts("{+a+b}{<1+b}{<2+a}", 18, 4, 4, 4, 0, 2, 4, 0, 0);
        counts(ALL_DECLARED, 52, 26, 1, 26, 0, 26, 26, 0, 0);
    }

    private static void known() {
        check.sentence("7 RENAMED ones that are known");
        RenameGraph x = Check.of("+a");
        for (int k = 1; k <= 22; k++) {
            check.due("count(7) ahead of " + k, x.count(7), Math.min(20, k - 1));
            x.rename(0, 'a' + k);
        }
        check.due("count(7)", x.count(7), 20);
        x.back();
        check.due("count(7) behind back()", x.count(7), 19);
        x.rename(0, 'z');
        check.due("count(7) behind rename()", x.count(7), 20);
        x.undo();
        check.due("count(7) behind undo()", x.count(7), 0);
    }

    private static void countRefused() {
        check.sentence("count: BAD.");
        for (int what : new int[] {LEAST, -1, 9, 10, 256, MOST}) {
            check.refuses("count(" + what + ")", x -> { }, x -> x.count(what), BAD);
            check.refuses("count(" + what + ")", x -> {
                Check.tell(x, "+a{b}");
                x.rename(0, 'c');
            }, x -> x.count(what), BAD);
        }
        check.due("count(8), the last", new RenameGraph().count(8), 0);
    }

    // ---- promise 29

    private static void add(List<Long> all, long... more) {
        for (long v : more) {
            all.add(v);
        }
    }

    private static long hash(List<Long> all) {
        long h = 17;
        for (long v : all) {
            h = 31 * h + v;
        }
        return h;
    }

    private static void bytes(List<Long> all, String text) {
        for (int i = 0; i < 40; i++) {
            all.add(i < text.length() ? (long) text.charAt(i) : -1L);
        }
    }

    /** All that goes into it, worked out by hand. */
    private static void digestByHand() {
        check.sentence("of each thing all that is told of it, then of the next one");
        long bad = Long.MIN_VALUE + 3;
        int all = (1 << 26) - 1;
        List<Long> d = new ArrayList<>();
        // +ac: a declaration, and a use that is unbound
        add(d, 3, 2, 1, 1, 1, 1, 1, 0, -1);
        bytes(d, "+ac");
        add(d, 0, 'a', 0, 0, 1, -3, 1, 0, -1, all & ~4);
        // to a: plain; to c: the use goes out; to x: plain
        add(d, 0, 0, -1, -1, 1, 2, 1, 0, 0, 1, -1, -1);
        add(d, 1, 'c', 0, 0, 2, -1, bad, bad, -3);
        add(d, -1, -1, 1, 1, 0, -1, 1);
        check.due("digest() of +ac", Check.of("+ac").digest(), hash(d));
        List<Long> e = new ArrayList<>();
        // {+b}b{<1b}: of two scopes the second extends the first
        add(e, 10, 3, 3, 1, 1, 1, 0, 0, -1);
        bytes(e, "{+b}b{<1b}");
        add(e, 0, 'b', 1, 0, 2, -3, 1, 4, -1, all);
        add(e, 0, 2, -1, -1, 0, 2, -1, -1, 0, 2, -1, -1);
        add(e, 1, 'b', 0, 0, 4, -1, bad, bad, -3);
        add(e, 1, 'b', 2, 0, 8, 0, bad, bad, -3);
        add(e, -1, -1, 0, 1, -1, -1, 0, -1, 1, 0, -1, 0, 0, 1, 0, 1, -1, 0, 0);
        check.due("digest() of {+b}b{<1b}", Check.of("{+b}b{<1b}").digest(), hash(e));
    }

    private static void digestUpToForty() {
        check.sentence("of 0 to 39 shown()");
        // with a fault only the bytes, their number and the fault tell
        String text = "}" + "a".repeat(59);
        for (int at : new int[] {1, 38, 39, 40, 41, 59}) {
            String other = text.substring(0, at) + "b" + text.substring(at + 1);
            boolean like = Check.of(text).digest() == Check.of(other).digest();
            check.due("digest() with another byte at " + at, like ? 1 : 0, at >= 40 ? 1 : 0);
        }
        for (int n : new int[] {0, 1, 39, 40, 41, 100}) {
            List<Long> d = new ArrayList<>();
            add(d, n, 0, 1, 0, 0, 0, 0, 0, n == 0 ? -1 : 0);
            bytes(d, "}".repeat(n));
            add(d, -1, -1, 0, 0, -1, -1, 0);
            check.due("digest() of " + n + " bytes", Check.of("}".repeat(n)).digest(), hash(d));
        }
    }

    private static void digestWraps() {
        check.sentence("as longs that wrap");
        // 31 to the power of the number of terms is far above a long
        BigInteger h = BigInteger.valueOf(17);
        List<Long> d = new ArrayList<>();
        add(d, 0, 0, 1, 0, 0, 0, 0, 0, -1);
        bytes(d, "");
        add(d, -1, -1, 0, 0, -1, -1, 0);
        for (long v : d) {
            h = h.multiply(BigInteger.valueOf(31)).add(BigInteger.valueOf(v));
        }
        check.holds("it is above a long", h.bitLength() > 64);
        check.due("digest() of nothing", new RenameGraph().digest(), h.longValue());
    }

    private static void digestOfAFault() {
        check.sentence("With a FAULT it is as if it was empty (digest)");
        String text = "+a{+ba}{<1b";
        List<Long> d = new ArrayList<>();
        add(d, text.length(), 0, 1, 0, 0, 0, 0, 0, text.length());
        bytes(d, text);
        add(d, -1, -1, 0, 0, -1, -1, 0);
        check.due("digest() of " + text, Check.of(text).digest(), hash(d));
    }

    private static void digestOfSixty() {
        check.sentence("of NODES node() 0 to 4, bound(), family(), uses(), hides() (of sixty)");
        long bad = Long.MIN_VALUE + 3;
        List<Long> d = new ArrayList<>();
        add(d, 60, 60, 1, 0, 60, 0, 0, 0, -1);
        bytes(d, "k".repeat(60));
        for (int i = 0; i < 60; i++) {
            add(d, 1, 'k', 0, 0, i, -1, bad, bad, -3);
        }
        add(d, -1, -1, 0, 60, -1, -1, 0);
        check.due("digest() of sixty uses", Check.of("k".repeat(60)).digest(), hash(d));
        List<Long> e = new ArrayList<>();
        add(e, 18, 0, 10, 0, 0, 0, 0, 0, -1);
        bytes(e, "{".repeat(9) + "}".repeat(9));
        for (int s = 0; s <= 9; s++) {
            add(e, s - 1, -1, 0, 0, -1, -1);
        }
        add(e, 0);
        check.due("digest() of ten scopes", Check.of("{".repeat(9) + "}".repeat(9)).digest(), hash(e));
    }

    private static void digestChangesNothing() {
        check.sentence("digest() tells, and changes nothing");
        for (String text : new String[] {"", "+ab", "+a{", FULL, "+x{+a{+c{xac^x^^a^^^c}}}"}) {
            check.due("state behind digest() of " + text, State.unlike(x -> Check.tell(x, text), x -> {
                Check.tell(x, text);
                x.digest();
            }), "");
        }
        RenameGraph x = Check.of("+ac");
        long was = x.digest();
        x.lose(0);
        x.sheet(0, 0, 5);
        check.due("digest() behind findings and sheets", x.digest(), was);
    }
}
