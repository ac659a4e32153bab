/** Promises 28 and 29: counts and the digest. */
public final class CountTest {
    private static final Check check = new Check("CountTest");

    public static void main(String[] args) {
        counts();
        digestOfNothing();
        digestByTheOtherCalls();
        digestTellsThingsApart();
        check.end();
    }

    private static void counts() {
        RenameGraph x = Check.of("+a+ba{+a}{<1+ac}d");
        int[] due = {17, 7, 3, 4, 2, 3, 3, 0, 0};
        for (int what = 0; what < due.length; what++) {
            check.due("count(" + what + ")", x.count(what), due[what]);
        }
        check.due("count(-1)", x.count(-1), RenameGraph.BAD);
        check.due("count(9)", x.count(9), RenameGraph.BAD);
        x.rename(1, 'c');
        check.due("count(7)", x.count(7), 1);
        x.lose(0);
        check.due("count(8)", x.count(8), 1);
        x.sheet(0, 0, -1);
        check.due("count(8) of the latest", x.count(8), 5);
        x.wipe();
        check.due("count(8) stays", x.count(8), 5);
    }

    /** Counts 0, fault NONE, forty times NONE, one scope with nothing in it. */
    private static void digestOfNothing() {
        long h = 17;
        long[] counts = {0, 0, 1, 0, 0, 0, 0, 0, -1};
        for (long c : counts) {
            h = 31 * h + c;
        }
        for (int k = 0; k < 40; k++) {
            h = 31 * h - 1;
        }
        long[] scope = {-1, -1, 0, 0, -1, -1};
        for (long c : scope) {
            h = 31 * h + c;
        }
        h = 31 * h;
        check.due("digest() of nothing", new RenameGraph().digest(), h);
    }

    private static long digestOf(RenameGraph x) {
        long h = 17;
        for (int what = 0; what <= 7; what++) {
            h = 31 * h + x.count(what);
        }
        h = 31 * h + x.fault();
        for (int k = 0; k < 40; k++) {
            h = 31 * h + x.shown(k);
        }
        for (int i = 0; i < x.count(1); i++) {
            for (int what = 0; what <= 4; what++) {
                h = 31 * h + x.node(i, what);
            }
            h = 31 * (31 * (31 * (31 * h + x.bound(i)) + x.family(i)) + x.uses(i)) + x.hides(i);
            if (x.node(i, 0) == 0) {
                h = 31 * h + x.easy(i);
                for (char name : new char[] {'a', 'c', 'x'}) {
                    h = 31 * (31 * h + x.plan(i, name, 0)) + x.plan(i, name, 1);
                    h = 31 * (31 * h + x.caught(i, name, 0)) + x.caught(i, name, 1);
                }
            }
        }
        for (int s = 0; s < x.count(2); s++) {
            for (int what = 0; what <= 3; what++) {
                h = 31 * h + x.scope(s, what);
            }
            h = 31 * (31 * h + x.own(s, 'a')) + x.own(s, 'b');
        }
        return 31 * h + x.idle();
    }

    private static void digestByTheOtherCalls() {
        String[] texts = {
            "", "a", "+a", "+aa", "+ab{+c^a}", "{+a}{<1+a}{<2ab}+a", "+a+a", "{",
            "+x{+a{+c{xac^x^^a^^^c}}}", "a".repeat(60), "+b" + "{".repeat(9) + "}".repeat(9) + "^^^c".repeat(10) + "x",
        };
        for (String text : texts) {
            RenameGraph x = Check.of(text);
            long due = digestOf(x);
            check.due("digest() of " + text, x.digest(), due);
            check.due("digest() again", x.digest(), due);
        }
    }

    private static void digestTellsThingsApart() {
        RenameGraph x = Check.of("+ab");
        long was = x.digest();
        x.rename(0, 'a');
        check.holds("known renamings count", x.digest() != was);
        x.back();
        check.due("digest() behind back()", x.digest(), was);
        x.sheet(0, 0, -1);
        check.due("findings do not count", x.digest(), was);
    }
}
