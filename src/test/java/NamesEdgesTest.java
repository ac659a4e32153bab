import java.util.ArrayDeque;
import java.util.Deque;
import java.util.function.Consumer;

/** The edges that the document names for names changed (Terms, promises 16 to 21), each sentence by itself. */
public final class NamesEdgesTest {
    private static final int NONE = RenameGraph.NONE, BAD = RenameGraph.BAD;
    private static final int NOT = RenameGraph.NOT, FULL = RenameGraph.FULL;
    private static final int LEAST = Integer.MIN_VALUE, MOST = Integer.MAX_VALUE;
    private static final String LETTERS = "abcdefghijklmnopqrstuvwxyz";
    private static final String ALL_DECLARED = "+" + String.join("+", LETTERS.split(""));
    private static final int[] NO_NAMES = {LEAST, -1, 0, 25, 'A', 'Z', '`', '{', 'a' + 256, MOST};
    private static final Check check = new Check("NamesEdgesTest");

    public static void main(String[] args) {
        allOfItsFamilyAndUses();
        noTwoOfAName();
        familiesAsBefore();
        boundAsBefore();
        plainJustSo();
        leastOutsThatWillDo();
        eachUseInOrder();
        outsAtMostThree();
        outsTakenAway();
        pushesAllOfTheName();
        leastNameThatIsNowhere();
        noSuchName();
        editsBehindItAll();
        editsOfNothing();
        fewestEdits();
        ofLikeOnesTheLeast();
        aboveAHundred();
        outsAboveAHundred();
        pushedAboveAHundred();
        noPlanAtAll();
        planRefused();
        editsRefused();
        caughtFirst();
        caughtNone();
        caughtRefused();
        easyOwnNameToo();
        easyRefused();
        renamesByBest();
        renameRefused();
        theLastTwenty();
        theRowsGoRound();
        takenBackLastFirst();
        backOfNone();
        noneIsKnownAnyMore();
        stillKnown();
        check.end();
    }

    private static void plans(String text, int i, char name, int... due) {
        RenameGraph x = Check.of(text);
        int best = NONE;
        for (int p = 0; p <= 2; p++) {
            check.due("edits(" + i + ", " + name + ", " + p + ") of '" + text + "'", x.edits(i, name, p), due[p]);
            best = due[p] != NONE && (best == NONE || due[p] < due[best]) ? p : best;
        }
        int edits = best == NONE ? NONE : due[best];
        check.due("plan(" + i + ", " + name + ", 0) of '" + text + "'", x.plan(i, name, 0), best);
        check.due("plan(" + i + ", " + name + ", 1) of '" + text + "'", x.plan(i, name, 1), edits);
        check.due("rename(" + i + ", " + name + ") of '" + text + "'", x.rename(i, name), best == NONE ? NOT : edits);
    }

    private static void renamed(String text, int i, char name, String then) {
        RenameGraph x = Check.of(text);
        x.rename(i, name);
        check.due("'" + text + "' with " + i + " renamed to " + name, Check.textOf(x), then);
        check.due("fault() behind it", x.fault(), NONE);
    }

    // ---- terms: what it is to rename

    private static void allOfItsFamilyAndUses() {
        check.sentence("all of its FAMILY, and all USES BOUND to any of these, get that NAME");
        String family = "+a{+a}{<1+aa}{<2^aa}a{<1a}";
        for (int i : new int[] {1, 2}) {
            renamed(family, i, 'k', "+a{+k}{<1+kk}{<2^ak}a{<1k}");
        }
        renamed(family, 0, 'k', "+k{+a}{<1+aa}{<2^ka}k{<1a}");
        renamed("+a", 0, 'z', "+z");
        renamed("a".repeat(59) + "+a", 59, 'b', "b".repeat(59) + "+b");
        // those that are unbound keep theirs
        renamed("{+aa}a^a", 0, 'b', "{+bb}a^a");
        StringBuilder chain = new StringBuilder("{+aa}");
        for (int s = 2; s <= 9; s++) {
            chain.append("{<").append(s - 1).append("+aa}");
        }
        for (int i = 0; i < 18; i += 2) {
            renamed(chain.toString(), i, 'q', chain.toString().replace('a', 'q'));
        }
    }

    private static void noTwoOfAName() {
        check.sentence("no SCOPE has two DECLARATIONS of a NAME then");
        plans("+a+b", 0, 'b', NONE, NONE, 2);
        plans("+a+b", 1, 'a', NONE, NONE, 2);
        plans("+a{+b}", 0, 'b', 1, 1, 2);
        plans("{+a}{+b}", 0, 'b', 1, 1, 2);
        // another of its family stands beside one of that name
        plans("{+a}{<1+a+b}", 0, 'b', NONE, NONE, 3);
        plans("{+a+b}{<1+a}", 1, 'a', NONE, NONE, 3);
    }

    private static void familiesAsBefore() {
        check.sentence("each DECLARATION is of one FAMILY with those as before, and with no others");
        plans("{+a}{<1+b}", 0, 'b', NONE, NONE, 2);
        plans("{+a}{<1+b}", 1, 'a', NONE, NONE, 2);
        plans("{+a}{<1}{<2+b}", 1, 'a', NONE, NONE, 2);
        plans("{}{<1+b}{<1+a}", 0, 'a', 1, 1, 2);
        // it would come between two of one family: these are still of one, but with it
        plans("{+a}{<1+b}{<2+a}", 1, 'a', NONE, NONE, 3);
        plans("{+a}{<1+b}{<2+a}", 0, 'b', NONE, NONE, 3);
        // families of other names stay
        plans("{+a}{<1+a}{+b}{<3+b}", 0, 'b', 2, 2, 4);
    }

    private static void boundAsBefore() {
        check.sentence("each USE is BOUND to what it was BOUND to (UNBOUND ones, too)");
        plans("+a{+ba}", 0, 'b', NONE, 3, 3);
        plans("+b{+ab}", 1, 'b', NONE, 2, 3);
        plans("+b{+aab}", 1, 'b', NONE, 3, 4);
        plans("+ab", 0, 'b', NONE, 2, 2);
        plans("{+a}b", 0, 'b', 1, 1, 1);
        plans("+a^b", 0, 'b', 1, 1, 1);
        plans("{+a{^^b}}", 0, 'b', 1, 1, 1);
        plans("{+a{^b}}", 0, 'b', NONE, 2, 2);
    }

    private static void plainJustSo() {
        check.sentence("0 PLAIN: just so, if it is WELL.");
        plans("+a", 0, 'b', 1, 1, 1);
        plans("+a" + "a".repeat(59), 0, 'b', 60, 60, 60);
        plans("+b", 0, 'a', 1, 1, 1);
        plans("+a{+b}a", 0, 'b', 2, 2, 3);
        renamed("+a{+b}a", 0, 'b', "+b{+b}b");
        // outs stay, though fewer would do
        plans("+a{{^^a}}", 0, 'b', 2, 2, 2);
        renamed("+a{{^^a}}", 0, 'b', "+b{{^^b}}");
    }

    private static void leastOutsThatWillDo() {
        check.sentence("OUTS become the least number (0 to 3) with which it is");
        renamed("+a{+ba}", 0, 'b', "+b{+b^b}");
        renamed("+b{+a{b}}", 1, 'b', "+b{+b{^^b}}");
        renamed("+bbb{+a{{b}}}", 3, 'b', "+bbb{+b{{^^^b}}}");
        // three would do as well as two: two are taken
        plans("+a{{+ba}}", 0, 'b', NONE, 3, 3);
        renamed("+a{{+ba}}", 0, 'b', "+b{{+b^b}}");
        // it is told anew, not added: from two to three
        plans("+a{{^^b}}", 0, 'b', NONE, 2, 2);
        renamed("+a{{^^b}}", 0, 'b', "+b{{^^^b}}");
        // of several uses each by itself
        renamed("+ab{b{b}}", 0, 'b', "+b^b{^^b{^^^b}}");
    }

    private static void eachUseInOrder() {
        check.sentence("of each USE that is not BOUND as before, in order (the first node, and the last)");
        plans("b+a", 1, 'b', NONE, 2, 2);
        renamed("b+a", 1, 'b', "^b+b");
        plans("+ab", 0, 'b', NONE, 2, 2);
        renamed("+ab", 0, 'b', "+b^b");
        String first = "b" + "c".repeat(58) + "+a";
        plans(first, 59, 'b', NONE, 2, 2);
        renamed(first, 59, 'b', "^b" + "c".repeat(58) + "+b");
        String last = "+a" + "c".repeat(58) + "b";
        plans(last, 0, 'b', NONE, 2, 2);
        renamed(last, 0, 'b', "+b" + "c".repeat(58) + "^b");
        // in a text that would be above 100 bytes by the first, or by the last
        plans("b+a" + fill(96), 1, 'b', NONE, 2, 2);
        plans("b+a" + fill(97), 1, 'b', NONE, NONE, NONE);
        plans("+a" + fill(96) + "b", 0, 'b', NONE, 2, 2);
        plans("+a" + fill(97) + "b", 0, 'b', NONE, NONE, NONE);
    }

    private static void outsAtMostThree() {
        check.sentence("the least number (0 to 3)");
        for (int depth = 0; depth <= 5; depth++) {
            String open = "{".repeat(depth);
            String close = "}".repeat(depth);
            // an unbound use so deep must go out beyond the text
            int out = depth + 1;
            int due = out <= 3 ? 1 + out : NONE;
            plans("+a" + open + "b" + close, 0, 'b', NONE, due, due);
            if (due != NONE) {
                renamed("+a" + open + "b" + close, 0, 'b', "+b" + open + "^".repeat(out) + "b" + close);
            }
            // a bound one so deep must go out beyond a scope
            int byOuts = out <= 3 ? 1 + out : NONE;
            plans("+b{+a" + open + "b" + close + "}", 1, 'b', NONE, byOuts, 3);
        }
    }

    private static void outsTakenAway() {
        check.sentence("^ that it adds or takes away");
        plans("{+x}{<1{+f{<1^x}}}", 1, 'x', NONE, 2, 3);
        renamed("{+x}{<1{+f{<1^x}}}", 1, 'x', "{+x}{<1{+x{<1x}}}");
        // three are taken away: as many as the names that pushing changes, and one more
        String far = "{+x}{<1{+f{{{<1^^^x}}}}}";
        plans(far, 1, 'x', NONE, 4, 3);
        renamed(far, 1, 'x', "{+a}{<1{+x{{{<1^^^a}}}}}");
        String near = "{+x}{<1{+f{{<1^^x}}}x}";
        plans(near, 1, 'x', NONE, 3, 4);
        renamed(near, 1, 'x', "{+x}{<1{+x{{<1x}}}x}");
    }

    private static void pushesAllOfTheName() {
        check.sentence("all DECLARATIONS of the NAME to which it is renamed, and USES BOUND to these");
        plans("+a+b{+bb}{b}", 0, 'b', NONE, NONE, 5);
        renamed("+a+b{+bb}{b}", 0, 'b', "+b+c{+cc}{c}");
        // unbound ones of that name are not pushed
        plans("{+a+b}b", 0, 'b', NONE, NONE, 2);
        renamed("{+a+b}b", 0, 'b', "{+b+c}b");
        // then as OUTS
        plans("{+ab}{<1+a+b}", 0, 'b', NONE, NONE, 4);
        renamed("{+ab}{<1+a+b}", 0, 'b', "{+b^b}{<1+b+c}");
        // with nothing of that name it is as OUTS
        plans("+aa", 0, 'b', 2, 2, 2);
        plans("+ab", 0, 'b', NONE, 2, 2);
    }

    private static void leastNameThatIsNowhere() {
        check.sentence("the least NAME (a on) that THE TEXT has nowhere ahead of it");
        renamed("+c+b", 0, 'b', "+b+a");
        renamed("+a+b", 0, 'b', "+b+c");
        // a use alone has it, an unbound one, one far within, one behind
        renamed("+a+bc", 0, 'b', "+b+dc");
        renamed("c{{^^^d}}+a+b", 2, 'b', "c{{^^^d}}+b+e");
        // the name that it leaves is still had
        renamed("+a+c", 0, 'c', "+c+b");
        // 25 names: the last is left
        for (int left = 2; left < 26; left++) {
            String text = ALL_DECLARED.replace("+" + LETTERS.charAt(left), "");
            String then = "+b+" + LETTERS.charAt(left) + text.substring(4);
            plans(text, 0, 'b', NONE, NONE, 2);
            renamed(text, 0, 'b', then);
        }
    }

    private static void noSuchName() {
        check.sentence("PUSHED neither, if there is no such NAME");
        for (int i = 0; i < 26; i += 5) {
            plans(ALL_DECLARED, i, LETTERS.charAt(i), 0, 0, NONE);
            plans(ALL_DECLARED, i, LETTERS.charAt((i + 1) % 26), NONE, NONE, NONE);
        }
        // 26 names of which one is a use alone, an unbound one
        String text = ALL_DECLARED.substring(0, 50) + "z";
        plans(text, 0, 'b', NONE, NONE, NONE);
        plans(text, 0, 'z', NONE, 2, NONE);
        plans(text.substring(0, 50), 0, 'b', NONE, NONE, 2);
        plans(text.substring(0, 50), 0, 'z', 1, 1, 1);
        // all names, and yet others by which it goes
        plans(ALL_DECLARED + "{+a}", 26, 'b', 1, 1, NONE);
    }

    private static void editsBehindItAll() {
        check.sentence("each as THE TEXT is behind it all, against as it was");
        // pushed, and given back what it had: no edit
        plans("+aa", 0, 'a', 0, 0, 0);
        plans("+a{+aa}a", 0, 'a', 0, 0, 2);
        plans("+a{+aa}a", 1, 'a', 0, 0, 2);
        plans("{+a}{<1+a}{+a}", 0, 'a', 0, 0, 1);
        plans("{+a}{<1+a}{+a}", 2, 'a', 0, 0, 2);
        // one that stays unbound is not touched
        plans("+a^^^b", 0, 'b', 1, 1, 1);
    }

    private static void editsOfNothing() {
        check.sentence("EDITS of a PLAN; NONE: it is not there.");
        plans("+a", 0, 'a', 0, 0, 0);
        plans("+a+b", 0, 'b', NONE, NONE, 2);
        plans("+ab", 0, 'b', NONE, 2, 2);
        plans("+a{{{b}}}", 0, 'b', NONE, NONE, NONE);
        plans("a".repeat(59) + "+a", 59, 'b', 60, 60, 60);
    }

    // ---- the best

    private static void fewestEdits() {
        check.sentence("BEST is the PLAN with fewest EDITS of those that there are");
        plans("+a{+baa}", 0, 'b', NONE, 5, 4);
        plans("+a{+bbba}", 0, 'b', NONE, 3, 5);
        plans("+a{+baaa}", 0, 'b', NONE, 7, 5);
        renamed("+a{+baaa}", 0, 'b', "+b{+cbbb}");
        renamed("+a{+bbba}", 0, 'b', "+b{+bbb^b}");
    }

    private static void ofLikeOnesTheLeast() {
        check.sentence("of like ones the least");
        plans("+a{+ba}", 0, 'b', NONE, 3, 3);
        renamed("+a{+ba}", 0, 'b', "+b{+b^b}");
        plans("+a{+baba}", 0, 'b', NONE, 5, 5);
        renamed("+a{+baba}", 0, 'b', "+b{+b^bb^b}");
        plans("+aa", 0, 'b', 2, 2, 2);
        plans("+aa", 0, 'a', 0, 0, 0);
    }

    /** Bytes of uses that are unbound and of no concern. */
    private static String fill(int bytes) {
        return "^^^c".repeat(bytes / 4) + "^".repeat(Math.max(0, bytes % 4 - 1)) + (bytes % 4 > 0 ? "c" : "");
    }

    private static void aboveAHundred() {
        check.sentence("a PLAN by which THE TEXT would be above 100 bytes is not there");
        for (int bytes = 97; bytes <= 100; bytes++) {
            for (int wanting = 0; wanting <= 3; wanting++) {
                String open = "{".repeat(Math.max(0, wanting - 1));
                String close = "}".repeat(Math.max(0, wanting - 1));
                String core = "+a" + open + (wanting == 0 ? "" : "b") + close;
                String text = core + fill(bytes - core.length());
                check.due("bytes", Check.of(text).count(0), bytes);
                boolean fits = bytes + wanting <= 100;
                int due = fits ? 1 + wanting : NONE;
                plans(text, 0, 'b', wanting == 0 ? 1 : NONE, due, due);
            }
        }
        RenameGraph x = Check.of("+ab" + fill(96));
        check.due("rename() to 100 bytes", x.rename(0, 'b'), 2);
        check.due("count(0)", x.count(0), 100);
        check.due("fault()", x.fault(), NONE);
        check.due("shown(99)", x.shown(99), 'c');
        check.due("back()", x.back(), 0);
        check.due("count(0)", x.count(0), 99);
        check.due("shown(99)", x.shown(99), NONE);
        // taking away is well in a full text
        String full = "{+x}{<1{+f{<1^x}}}" + fill(82);
        check.due("bytes", full.length(), 100);
        plans(full, 1, 'x', NONE, 2, 3);
        renamed(full, 1, 'x', "{+x}{<1{+x{<1x}}}" + fill(82));
    }

    private static void outsAboveAHundred() {
        check.sentence("BEST of those that there are (OUTS is above 100 bytes, PUSHED is not)");
        plans("+a{+bbba}" + fill(90), 0, 'b', NONE, 3, 5);
        plans("+a{+bbba}" + fill(91), 0, 'b', NONE, NONE, 5);
        renamed("+a{+bbba}" + fill(90), 0, 'b', "+b{+bbb^b}" + fill(90));
        renamed("+a{+bbba}" + fill(91), 0, 'b', "+b{+dddb}" + fill(91));
    }

    private static void pushedAboveAHundred() {
        check.sentence("a PLAN by which THE TEXT would be above 100 bytes is not there (PUSHED)");
        String core = "{+ab}{<1+a+b}";
        plans(core + fill(99 - core.length()), 0, 'b', NONE, NONE, 4);
        plans(core + fill(100 - core.length()), 0, 'b', NONE, NONE, NONE);
        plans("+a{+b}b" + fill(92), 0, 'b', NONE, 2, 3);
        plans("+a{+b}b" + fill(93), 0, 'b', NONE, NONE, NONE);
    }

    // ---- promises 16 and 17

    private static void noPlanAtAll() {
        check.sentence("which PLAN (what = 0), EDITS (1); NONE: there is none.");
        for (String text : new String[] {"+a{{{b}}}", "+ab" + fill(97), ALL_DECLARED}) {
            RenameGraph x = Check.of(text);
            check.due("plan(0, b, 0) of " + text, x.plan(0, 'b', 0), NONE);
            check.due("plan(0, b, 1) of " + text, x.plan(0, 'b', 1), NONE);
            check.due("plan(0, a, 0) of " + text, x.plan(0, 'a', 0), 0);
            check.due("plan(0, a, 1) of " + text, x.plan(0, 'a', 1), 0);
        }
        // what one answers is not what was asked ahead
        RenameGraph y = Check.of("+a{{{b}}}");
        check.due("plan(0, k, 1)", y.plan(0, 'k', 1), 1);
        check.due("plan(0, b, 1) behind it", y.plan(0, 'b', 1), NONE);
        check.due("edits(0, b, 1) behind it", y.edits(0, 'b', 1), NONE);
    }

    private static void past(RenameGraph x) {
        Check.tell(x, "+a{+ba}{<1+bc}d");
        x.sheet(0, 0, 3);
        x.put(0, 0, 1, -5);
        x.rename(0, 'e');
        x.rename(1, 'f');
    }

    /** A call that takes a node and a name: what it refuses, and with which answer. */
    private interface Asked {
        long of(RenameGraph x, int i, int name);
    }

    private static void refusesNodesAndNames(String call, Asked asked) {
        Consumer<RenameGraph> past = NamesEdgesTest::past;
        for (int i : new int[] {LEAST, -1, 6, 7, 60, 64, MOST}) {
            check.refuses(call + " of node " + i, past, x -> asked.of(x, i, 'a'), BAD);
        }
        for (int name : NO_NAMES) {
            check.refuses(call + " of name " + name, past, x -> asked.of(x, 0, name), BAD);
            // of two refusals the first: no such name, and a use
            check.refuses(call + " of a use and name " + name, past, x -> asked.of(x, 2, name), BAD);
            check.refuses(call + " of no node and name " + name, past, x -> asked.of(x, 6, name), BAD);
        }
        for (int use : new int[] {2, 4, 5}) {
            check.refuses(call + " of use " + use, past, x -> asked.of(x, use, 'a'), NOT);
            check.refuses(call + " of use " + use, past, x -> asked.of(x, use, 'z'), NOT);
        }
        check.refuses(call + " of nothing", x -> { }, x -> asked.of(x, 0, 'a'), BAD);
        check.refuses(call + " with a fault", x -> Check.tell(x, "+a{"), x -> asked.of(x, 0, 'a'), BAD);
        check.due(call + " of the first name", Math.min(0, asked.of(Check.of("+a"), 0, 'a')) < -1 ? 1 : 0, 0);
        check.due(call + " of the last name", Math.min(0, asked.of(Check.of("+a"), 0, 'z')) < -1 ? 1 : 0, 0);
        RenameGraph sixty = Check.of("a".repeat(59) + "+a");
        check.due(call + " of node 59", asked.of(sixty, 59, 'a') < -1 ? 1 : 0, 0);
        check.due(call + " of node 60", asked.of(sixty, 60, 'a'), BAD);
    }

    /** The same with a third number, from 0 to last. */
    private static void refusesNumbers(String call, int last, Asked3 asked) {
        Consumer<RenameGraph> past = NamesEdgesTest::past;
        for (int what : new int[] {LEAST, -1, last + 1, last + 2, MOST}) {
            check.refuses(call + " of " + what, past, x -> asked.of(x, 0, 'b', what), BAD);
            // of two refusals the first: no such number, and a use
            check.refuses(call + " of a use and " + what, past, x -> asked.of(x, 2, 'b', what), BAD);
            check.refuses(call + " of no name and " + what, past, x -> asked.of(x, 2, '{', what), BAD);
            check.refuses(call + " of no node and " + what, past, x -> asked.of(x, 6, 'b', what), BAD);
        }
        for (int what = 0; what <= last; what++) {
            int number = what;
            refusesNodesAndNames(call + " " + number, (x, i, name) -> asked.of(x, i, name, number));
        }
    }

    private interface Asked3 {
        long of(RenameGraph x, int i, int name, int what);
    }

    private static void planRefused() {
        check.sentence("plan: a NAME (a to z). BAD; NOT: it is a USE.");
        refusesNumbers("plan()", 1, (x, i, name, what) -> x.plan(i, name, what));
    }

    private static void editsRefused() {
        check.sentence("edits: BAD; NOT: it is a USE.");
        refusesNumbers("edits()", 2, (x, i, name, plan) -> x.edits(i, name, plan));
    }

    // ---- promise 18

    private static void caught(String text, int i, char name, int use, int by) {
        RenameGraph x = Check.of(text);
        check.due("caught(" + i + ", " + name + ", 0) of '" + text + "'", x.caught(i, name, 0), use);
        check.due("caught(" + i + ", " + name + ", 1) of '" + text + "'", x.caught(i, name, 1), by);
    }

    private static void caughtFirst() {
        check.sentence("the first USE, by number, that is not BOUND as before (what = 0), and the DECLARATION to which it is BOUND then (1)");
        caught("+a{+ba}", 0, 'b', 2, 1);
        caught("+a{+b{a}}b", 0, 'b', 2, 1);
        caught("b+a{+b{a}}", 1, 'b', 0, 1);
        caught("b{+ba}+a", 3, 'b', 0, 3);
        // the very first node, and the last of sixty
        caught("b+a", 1, 'b', 0, 1);
        caught("+a" + "c".repeat(58) + "b", 0, 'b', 59, 0);
        caught("b" + "c".repeat(58) + "+a", 59, 'b', 0, 59);
        // just so: also where a scope would have two of the name
        caught("+a+bab", 0, 'b', 3, 0);
        // by one that the scope extends
        caught("{+b}{<1a}+a", 2, 'b', 1, 0);
        caught("+b{+a}{<1b}", 1, 'b', 2, 1);
    }

    private static void caughtNone() {
        check.sentence("CAUGHT; NONE.");
        caught("+a", 0, 'b', NONE, NONE);
        caught("+aa", 0, 'a', NONE, NONE);
        caught("+aa", 0, 'z', NONE, NONE);
        caught("+a{+b}", 0, 'b', NONE, NONE);
        caught("+a^b", 0, 'b', NONE, NONE);
        // it is not WELL, but no use is caught
        caught("+a+b", 0, 'b', NONE, NONE);
        caught("{+a}{<1+b}", 0, 'b', NONE, NONE);
    }

    private static void caughtRefused() {
        check.sentence("caught: BAD; NOT: it is a USE.");
        refusesNumbers("caught()", 1, (x, i, name, what) -> x.caught(i, name, what));
    }

    // ---- promise 19

    private static void easyOwnNameToo() {
        check.sentence("EASY are NAMES to which a DECLARATION can be renamed by PLAIN (its own NAME too), as bits (bit 0 a).");
        int all = (1 << 26) - 1;
        for (int k = 0; k < 26; k++) {
            check.due("easy() of one alone", Check.of("+" + LETTERS.charAt(k)).easy(0), all);
            check.due("easy(" + k + ") of all names", Check.of(ALL_DECLARED).easy(k), 1 << k);
            char name = LETTERS.charAt(k);
            char own = name == 'k' ? 'm' : 'k';
            check.due("easy() beside " + name, Check.of("+" + own + "+" + name).easy(0), all & ~(1 << k));
            check.due("easy() with a use " + name, Check.of("+" + own + name).easy(0), all & ~(1 << k));
        }
        // by PLAIN alone: in a full text, too
        check.due("easy() of a full text", Check.of("+ab" + fill(97)).easy(0), all & ~6);
        check.due("easy() where none is caught", Check.of("+a{+b}").easy(0), all);
    }

    private static void easyRefused() {
        check.sentence("easy: BAD; NOT: it is a USE.");
        Consumer<RenameGraph> past = NamesEdgesTest::past;
        for (int i : new int[] {LEAST, -1, 6, 7, 60, 64, MOST}) {
            check.refuses("easy(" + i + ")", past, x -> x.easy(i), BAD);
        }
        for (int use : new int[] {2, 4, 5}) {
            check.refuses("easy(" + use + ")", past, x -> x.easy(use), NOT);
        }
        check.refuses("easy(0) of nothing", x -> { }, x -> x.easy(0), BAD);
        check.due("easy(60) of sixty", Check.of("a".repeat(59) + "+a").easy(60), BAD);
        check.due("easy(59) of sixty", Check.of("a".repeat(59) + "+a").easy(59), (1 << 26) - 1);
    }

    // ---- promise 20

    private static void renamesByBest() {
        check.sentence("RENAMED THE TEXT is as it becomes by BEST; It is RENAMED: how many EDITS.");
        String[][] cases = {
            {"+aa", "b", "2", "+bb"}, {"+aa", "a", "0", "+aa"}, {"+a{+ba}", "b", "3", "+b{+b^b}"},
            {"+a{+baa}", "b", "4", "+b{+cbb}"}, {"+a+b", "b", "2", "+b+c"},
        };
        for (String[] c : cases) {
            RenameGraph x = Check.of(c[0]);
            check.due("rename(0, " + c[1] + ") of " + c[0], x.rename(0, c[1].charAt(0)), Integer.parseInt(c[2]));
            check.due("text", Check.textOf(x), c[3]);
            check.due("count(7)", x.count(7), 1);
            // but for what is known it is as if it was told so
            x.type('a');
            x.undo();
            check.due("state", State.unlike(y -> Check.tell(y, c[3]), y -> {
                Check.tell(y, c[0]);
                y.rename(0, c[1].charAt(0));
                y.type('a');
                y.undo();
            }), "");
        }
    }

    private static void renameRefused() {
        check.sentence("rename: BAD; NOT: it is a USE, there is no PLAN.");
        refusesNodesAndNames("rename()", (x, i, name) -> x.rename(i, name));
        for (String text : new String[] {"+a{{{b}}}", "+ab" + fill(97), ALL_DECLARED}) {
            check.refuses("rename() with no plan", x -> {
                Check.tell(x, text);
                x.sheet(1, 1, 2);
                x.rename(0, 'a');
            }, x -> x.rename(0, 'b'), NOT);
        }
    }

    // ---- promise 21, and what is known

    private static void theLastTwenty() {
        check.sentence("the last 20 such are known");
        for (int n : new int[] {0, 1, 19, 20, 21, 25}) {
            RenameGraph x = Check.of("+a");
            for (int k = 1; k <= n; k++) {
                x.rename(0, 'a' + k);
            }
            int known = Math.min(n, 20);
            check.due("count(7) behind " + n, x.count(7), known);
            for (int k = 1; k <= known; k++) {
                check.due("back() number " + k, x.back(), known - k);
                check.due("name behind it", x.shown(1), 'a' + n - k);
            }
            check.due("back() beyond", x.back(), NOT);
            check.due("name behind it", x.shown(1), 'a' + n - known);
        }
    }

    /** Many more than twenty, with some taken back in between, held against a list of them. */
    private static void theRowsGoRound() {
        check.sentence("the last 20 such are known, and can be taken back, the last one first (round and round)");
        RenameGraph x = Check.of("+ab");
        Deque<String> known = new ArrayDeque<>();
        String text = "+ab";
        for (int k = 0; k < 120; k++) {
            int backs = k % 7 == 6 ? k % 5 : k == 80 ? 25 : 0;
            for (int b = 0; b < backs; b++) {
                int due = known.isEmpty() ? NOT : known.size() - 1;
                text = known.isEmpty() ? text : known.removeLast();
                check.due("back()", x.back(), due);
            }
            char name = (char) ('c' + k % 24);
            known.addLast(text);
            if (known.size() > 20) {
                known.removeFirst();
            }
            text = "+" + name + "b";
            x.rename(0, name);
            check.due("count(7)", x.count(7), known.size());
            check.due("shown(1)", x.shown(1), name);
        }
        while (!known.isEmpty()) {
            text = known.removeLast();
            check.due("back()", x.back(), known.size());
            check.due("shown(1)", x.shown(1), text.charAt(1));
        }
        check.due("back() of none", x.back(), NOT);
    }

    private static void takenBackLastFirst() {
        check.sentence("The last RENAMED one that is known is taken back: how many are known still.");
        String[] texts = {"+a{+ba}{b}", "+b{+b^b}{^^b}", "+b{+c^b}{^^b}", "+d{+c^d}{^^b}"};
        RenameGraph x = Check.of(texts[0]);
        x.rename(0, 'b');
        x.rename(1, 'c');
        x.rename(0, 'd');
        check.due("text", Check.textOf(x), texts[3]);
        for (int k = 2; k >= 0; k--) {
            check.due("back()", x.back(), k);
            check.due("text", Check.textOf(x), texts[k]);
            check.due("count(7)", x.count(7), k);
        }
        check.due("state behind all", State.unlike(y -> Check.tell(y, texts[0]), y -> {
            Check.tell(y, texts[0]);
            y.rename(0, 'b');
            y.rename(1, 'c');
            y.back();
            y.back();
        }), "");
        // with no edits it is one that is known, too
        RenameGraph z = Check.of("+a");
        check.due("rename(0, a)", z.rename(0, 'a'), 0);
        check.due("back()", z.back(), 0);
        check.due("back() of none", z.back(), NOT);
    }

    private static void backOfNone() {
        check.sentence("back: NOT: none is.");
        check.refuses("back() of nothing", x -> { }, x -> x.back(), NOT);
        check.refuses("back() with no renaming", x -> Check.tell(x, "+a{b}"), x -> x.back(), NOT);
        check.refuses("back() with a fault", x -> Check.tell(x, "+a{b"), x -> x.back(), NOT);
        check.refuses("back() behind the last", x -> {
            Check.tell(x, "+a{b}");
            x.rename(0, 'c');
            x.back();
        }, x -> x.back(), NOT);
    }

    private static void noneIsKnownAnyMore() {
        check.sentence("by a byte told, or undone, or by wipe(), none is known any more");
        forgets("type()", x -> x.type('b'));
        forgets("type() of a byte with which it cannot go on", x -> x.type(0));
        forgets("undo()", x -> x.undo());
        forgets("wipe()", x -> x.wipe());
        forgets("read()", x -> {
            x.sheet(0, 0, 1);
            x.put(0, 0, 0, 'b');
            x.read(0);
        });
        forgets("type() and undo()", x -> {
            x.type('b');
            x.undo();
        });
    }

    private static void forgets(String call, Consumer<RenameGraph> act) {
        for (int renamings : new int[] {1, 2, 20, 21}) {
            RenameGraph x = Check.of("+ac");
            for (int k = 0; k < renamings; k++) {
                x.rename(0, 'd' + k);
            }
            act.accept(x);
            String text = Check.textOf(x);
            check.due("count(7) behind " + call, x.count(7), 0);
            check.due("back() behind " + call, x.back(), NOT);
            check.due("text", Check.textOf(x), text);
            // what comes is known from the first on again
            x.wipe();
            Check.tell(x, "+a");
            x.rename(0, 'b');
            check.due("count(7) of a new one", x.count(7), 1);
            check.due("back() of a new one", x.back(), 0);
            check.due("text", Check.textOf(x), "+a");
            check.due("back() of none", x.back(), NOT);
        }
    }

    private static void full(RenameGraph x) {
        Check.tell(x, "+ac" + fill(97));
        x.rename(0, 'b');
        x.rename(0, 'd');
        x.sheet(0, 0, 2);
    }

    private static void stillKnown() {
        check.sentence("as long as no byte was told since (a byte refused is none told)");
        check.refuses("type() if full", NamesEdgesTest::full, x -> x.type('a'), FULL);
        check.refuses("type() of no byte", NamesEdgesTest::full, x -> x.type(256), BAD);
        check.refuses("read() if full", NamesEdgesTest::full, x -> x.read(0), 0);
        check.refuses("read() of no sheet", NamesEdgesTest::full, x -> x.read(4), BAD);
        check.finds("read() of a lost one", NamesEdgesTest::full, x -> x.read(1), -11, 1);
        check.refuses("type() of no byte", NamesEdgesTest::past, x -> x.type(-1), BAD);
        check.refuses("a rename() that is none", NamesEdgesTest::past, x -> x.rename(2, 'a'), NOT);
        RenameGraph x = new RenameGraph();
        full(x);
        check.due("count(7)", x.count(7), 2);
        // sheets are of no concern
        x.sheet(1, 2, 3);
        x.write(1);
        x.copy(1, 0, 1, 1, 2);
        x.lose(1);
        check.due("count(7) behind calls on sheets", x.count(7), 2);
        check.due("back()", x.back(), 1);
        check.due("back()", x.back(), 0);
        check.due("shown(1)", x.shown(1), 'a');
    }
}
