/** Promises 16 to 21: plans, edits, what is caught, renaming and taking it back. */
public final class NamesTest {
    private static final int NONE = RenameGraph.NONE, BAD = RenameGraph.BAD, NOT = RenameGraph.NOT;
    private static final Check check = new Check("NamesTest");

    public static void main(String[] args) {
        plain();
        byOuts();
        pushed();
        pushedToNoName();
        ownName();
        tooLong();
        notWell();
        families();
        refusals();
        caughtOnes();
        easyNames();
        renaming();
        sixtyNodes();
        takingBack();
        forgetting();
        keeping();
        lastTwenty();
        check.end();
    }

    /** Edits of the three plans for declaration i and a name. */
    private static void plans(String text, int i, char name, int... due) {
        RenameGraph x = Check.of(text);
        int best = NONE;
        for (int p = 0; p < 3; p++) {
            check.due("edits(" + i + ", " + name + ", " + p + ") of " + text, x.edits(i, name, p), due[p]);
            if (due[p] != NONE && (best == NONE || due[p] < due[best])) {
                best = p;
            }
        }
        check.due("plan(" + i + ", " + name + ", 0) of " + text, x.plan(i, name, 0), best);
        check.due("plan(" + i + ", " + name + ", 1) of " + text, x.plan(i, name, 1), best == NONE ? NONE : due[best]);
    }

    private static void renamed(String text, int i, char name, int edits, String then) {
        RenameGraph x = Check.of(text);
        check.due("rename(" + i + ", " + name + ") of " + text, x.rename(i, name), edits);
        check.due(text + " with " + i + " renamed to " + name, Check.textOf(x), then);
        check.due("fault() behind it", x.fault(), NONE);
    }

    private static void plain() {
        plans("+a", 0, 'b', 1, 1, 1);
        plans("+aaa{a}", 0, 'b', 4, 4, 4);
        plans("+aa+b", 0, 'c', 2, 2, 2);
        renamed("+aaa{a}b", 0, 'c', 4, "+ccc{c}b");
        renamed("{+a}{<1a+a}a", 0, 'b', 3, "{+b}{<1b+b}a");
    }

    private static void byOuts() {
        // the use in the inner scope would be caught by the inner b
        plans("+a{+ba}", 0, 'b', NONE, 3, 3);
        renamed("+a{+ba}", 0, 'b', 3, "+b{+b^b}");
        // pushing costs the inner b and its two uses
        plans("+a{+bbba}", 0, 'b', NONE, 3, 5);
        // an unbound use goes out beyond the text
        plans("+ab", 0, 'b', NONE, 2, 2);
        renamed("+ab", 0, 'b', 2, "+b^b");
        plans("b+a", 1, 'b', NONE, 2, 2);
        renamed("b+a", 1, 'b', 2, "^b+b");
        plans("+a{{b}}", 0, 'b', NONE, 4, 4);
        renamed("+a{{b}}", 0, 'b', 4, "+b{{^^^b}}");
        // four out would be needed
        plans("+a{{{b}}}", 0, 'b', NONE, NONE, NONE);
        // of like ones the least: pushing would change as much
        plans("+b{+a{b}}", 1, 'b', NONE, 3, 3);
        renamed("+b{+a{b}}", 1, 'b', 3, "+b{+b{^^b}}");
        // outs become the least that will do, also by taking one away
        plans("{+x}{<1{+f{<1^x}}}", 1, 'x', NONE, 2, 3);
        renamed("{+x}{<1{+f{<1^x}}}", 1, 'x', 2, "{+x}{<1{+x{<1x}}}");
    }

    private static void pushed() {
        // two uses would be caught: each needs ^; the other is renamed for one edit
        plans("+a{+baaa}", 0, 'b', NONE, 7, 5);
        renamed("+a{+baaa}", 0, 'b', 5, "+b{+cbbb}");
        // in one scope only pushing will do
        plans("+a+b", 0, 'b', NONE, NONE, 2);
        renamed("+a+b", 0, 'b', 2, "+b+c");
        renamed("+a+bab", 0, 'b', 4, "+b+cbc");
        // all of that name are pushed, also where it need not be
        plans("+a+b{+b}", 0, 'b', NONE, NONE, 3);
        renamed("+a+b{+bb}b", 0, 'b', 5, "+b+c{+cc}c");
        // an unbound use of the name is not pushed: it goes out
        renamed("+a{+b}b", 0, 'b', 2, "+b{+b}^b");
        plans("+a{+b}b", 0, 'b', NONE, 2, 3);
        // the least name that the text has nowhere, as it was ahead
        renamed("+c+a", 0, 'a', 2, "+a+b");
        renamed("+b+a{c}", 0, 'a', 2, "+a+d{c}");
        renamed("+c+b", 0, 'b', 2, "+b+a");
    }

    private static void pushedToNoName() {
        StringBuilder all = new StringBuilder();
        for (char c = 'a'; c <= 'z'; c++) {
            all.append('+').append(c);
        }
        plans(all.toString(), 0, 'b', NONE, NONE, NONE);
        plans(all.toString(), 0, 'a', 0, 0, NONE);
        plans(all.substring(0, 50), 0, 'b', NONE, NONE, 2);
        plans(all.substring(0, 50), 0, 'z', 1, 1, 1);
        renamed(all.substring(0, 50), 24, 'a', 2, "+z" + all.substring(2, 48) + "+a");
        RenameGraph x = Check.of(all.toString());
        check.due("rename(0, b) with no plan", x.rename(0, 'b'), NOT);
        check.due("count(7)", x.count(7), 0);
    }

    private static void ownName() {
        plans("+a{+aa}", 0, 'a', 0, 0, 2);
        plans("+a{+aa}", 1, 'a', 0, 0, 1);
        plans("+aa", 0, 'a', 0, 0, 0);
        renamed("+a{+aa}a", 0, 'a', 0, "+a{+aa}a");
    }

    private static void tooLong() {
        String ninetySix = "{}".repeat(8) + "{" + "^^^c".repeat(19) + "}" + "+a";
        check.due("bytes", ninetySix.length(), 96);
        plans(ninetySix + "bbb", 19, 'b', NONE, NONE, NONE);
        plans(ninetySix + "bb", 19, 'b', NONE, 3, 3);
        plans(ninetySix + "^bbb", 19, 'b', NONE, NONE, NONE);
        // the first node counts as the others
        plans("b" + ninetySix + "bbb", 20, 'b', NONE, NONE, NONE);
        plans("b" + ninetySix + "b", 20, 'b', NONE, 3, 3);
        plans("b" + ninetySix + "cb", 20, 'b', NONE, NONE, NONE);
        RenameGraph x = Check.of(ninetySix + "bb");
        check.due("rename to 100 bytes", x.rename(19, 'b'), 3);
        check.due("count(0)", x.count(0), 100);
        check.due("fault()", x.fault(), NONE);
    }

    private static void notWell() {
        // the family would take in a stranger
        plans("{+a}{<1+b}", 0, 'b', NONE, NONE, 2);
        renamed("{+a}{<1+b}", 0, 'b', 2, "{+b}{<1+c}");
        plans("{+a}{<1+b}", 1, 'a', NONE, NONE, 2);
        // a farther one would be hidden from the family
        plans("{+a}{<1+b}{<2+a}", 1, 'a', NONE, NONE, 3);
    }

    private static void families() {
        renamed("{+a}{<1+a}{<2a}a", 1, 'c', 3, "{+c}{<1+c}{<2c}a");
        plans("{+a}{<1+a}{<2a+b}", 0, 'b', NONE, NONE, 4);
        renamed("{+a}{<1+a}{<2a+b}", 0, 'b', 4, "{+b}{<1+b}{<2b+c}");
    }

    private static void refusals() {
        RenameGraph x = Check.of("+ab");
        check.due("plan(2, a, 0)", x.plan(2, 'a', 0), BAD);
        check.due("plan(-1, a, 0)", x.plan(-1, 'a', 0), BAD);
        check.due("plan(0, `, 0)", x.plan(0, '`', 0), BAD);
        check.due("plan(0, {, 0)", x.plan(0, '{', 0), BAD);
        check.due("plan(0, a, 2)", x.plan(0, 'a', 2), BAD);
        check.due("plan(0, a, -1)", x.plan(0, 'a', -1), BAD);
        check.due("plan(1, a, 0)", x.plan(1, 'a', 0), NOT);
        check.due("plan(1, a, 2)", x.plan(1, 'a', 2), BAD);
        check.due("plan(1, A, 0)", x.plan(1, 'A', 0), BAD);
        check.due("edits(2, a, 0)", x.edits(2, 'a', 0), BAD);
        check.due("edits(0, a, 3)", x.edits(0, 'a', 3), BAD);
        check.due("edits(0, a, -1)", x.edits(0, 'a', -1), BAD);
        check.due("edits(1, a, 2)", x.edits(1, 'a', 2), NOT);
        check.due("edits(1, a, 3)", x.edits(1, 'a', 3), BAD);
        check.due("edits(1, {, 0)", x.edits(1, '{', 0), BAD);
        check.due("caught(2, a, 0)", x.caught(2, 'a', 0), BAD);
        check.due("caught(0, a, 2)", x.caught(0, 'a', 2), BAD);
        check.due("caught(0, a, -1)", x.caught(0, 'a', -1), BAD);
        check.due("caught(1, a, 1)", x.caught(1, 'a', 1), NOT);
        check.due("caught(1, {, 1)", x.caught(1, '{', 1), BAD);
        check.due("easy(2)", x.easy(2), BAD);
        check.due("easy(-1)", x.easy(-1), BAD);
        check.due("easy(1)", x.easy(1), NOT);
        check.due("rename(2, a)", x.rename(2, 'a'), BAD);
        check.due("rename(-1, a)", x.rename(-1, 'a'), BAD);
        check.due("rename(0, {)", x.rename(0, '{'), BAD);
        check.due("rename(1, {)", x.rename(1, '{'), BAD);
        check.due("rename(1, a)", x.rename(1, 'a'), NOT);
        check.due("back()", x.back(), NOT);
        check.due("text", Check.textOf(x), "+ab");
        check.due("count(7)", x.count(7), 0);
        check.due("count(8)", x.count(8), 0);
        RenameGraph y = Check.of("+a{{{b}}}");
        check.due("rename with no plan", y.rename(0, 'b'), NOT);
        check.due("text with no plan", Check.textOf(y), "+a{{{b}}}");
        check.due("count(7) with no plan", y.count(7), 0);
    }

    private static void caught(String text, int i, char name, int use, int by) {
        RenameGraph x = Check.of(text);
        check.due("caught(" + i + ", " + name + ", 0) of " + text, x.caught(i, name, 0), use);
        check.due("caught(" + i + ", " + name + ", 1) of " + text, x.caught(i, name, 1), by);
    }

    private static void caughtOnes() {
        caught("+aa", 0, 'b', NONE, NONE);
        caught("+aa", 0, 'a', NONE, NONE);
        caught("+a{+ba}", 0, 'b', 2, 1);
        caught("+ab", 0, 'b', 1, 0);
        caught("bb+a", 2, 'b', 0, 2);
        // of two in one scope the first one is taken
        caught("+a+bab", 0, 'b', 3, 0);
        caught("+b+aba", 1, 'b', 3, 0);
        // the first use by number
        caught("+a{+b{a}}b", 0, 'b', 2, 1);
        caught("b+a{+b{a}}", 1, 'b', 0, 1);
        caught("+a{+b}", 0, 'b', NONE, NONE);
    }

    private static void easyNames() {
        int all = (1 << 26) - 1;
        check.due("easy(0) of +a", Check.of("+a").easy(0), all);
        check.due("easy(0) of +ab", Check.of("+ab").easy(0), all & ~2);
        check.due("easy(0) of +a+z", Check.of("+a+z").easy(0), all >> 1);
        check.due("easy(1) of +a+z", Check.of("+a+z").easy(1), all & ~1);
        check.due("easy(0) of +a{+ba}+c", Check.of("+a{+ba}+c").easy(0), all & ~6);
        check.due("easy(0) of +a{+b}a", Check.of("+a{+b}a").easy(0), all);
    }

    private static void renaming() {
        RenameGraph x = Check.of("+a{+ba}");
        x.rename(0, 'b');
        check.due("node(2, 3)", x.node(2, 3), 1);
        check.due("node(2, 4)", x.node(2, 4), 6);
        check.due("bound(2)", x.bound(2), 0);
        check.due("count(7)", x.count(7), 1);
        // the other way: it is bound as before, so its ^ stays
        check.due("rename(1, c)", x.rename(1, 'c'), 1);
        check.due("text", Check.textOf(x), "+b{+c^b}");
        check.due("rename(1, c) again", x.rename(1, 'c'), 0);
        check.due("count(7)", x.count(7), 3);
        // outs are changed by as many as are wanting
        renamed("+a{{^^b}}", 0, 'b', 2, "+b{{^^^b}}");
    }

    private static void sixtyNodes() {
        String sixty = "a".repeat(30) + "+b{+a" + "c".repeat(27) + "b}";
        check.due("nodes", Check.of(sixty).count(1), 60);
        plans(sixty, 30, 'a', NONE, 33, 33);
        caught(sixty, 30, 'a', 0, 30);
        caught(sixty, 31, 'b', 59, 31);
        renamed(sixty, 30, 'a', 33, "^a".repeat(30) + "+a{+a" + "c".repeat(27) + "^a}");
        plans("a".repeat(57) + "+b{+ab}", 57, 'a', NONE, NONE, NONE);
        renamed("a".repeat(59) + "+a", 59, 'b', 60, "b".repeat(59) + "+b");
        String shorter = "a".repeat(34) + "+b" + "{+a" + "b".repeat(24) + "}";
        check.due("nodes", Check.of(shorter).count(1), 60);
        plans(shorter, 34, 'a', NONE, NONE, 60);
    }

    private static void takingBack() {
        RenameGraph x = Check.of("+ab");
        x.rename(0, 'b');
        x.rename(0, 'c');
        check.due("text", Check.textOf(x), "+c^b");
        check.due("back()", x.back(), 1);
        check.due("text", Check.textOf(x), "+b^b");
        check.due("back()", x.back(), 0);
        check.due("text", Check.textOf(x), "+ab");
        check.due("bound(1)", x.bound(1), NONE);
        check.due("shown(3)", x.shown(3), NONE);
        check.due("back() of none", x.back(), NOT);
        check.due("text", Check.textOf(x), "+ab");
        x.rename(0, 'd');
        check.due("back() of a new one", x.back(), 0);
        check.due("text", Check.textOf(x), "+ab");
    }

    private static void forgetting() {
        RenameGraph x = Check.of("+ab");
        check.due("rename(0, c)", x.rename(0, 'c'), 1);
        x.type('d');
        check.due("count(7) behind type", x.count(7), 0);
        check.due("back() behind type", x.back(), NOT);
        check.due("rename(0, e)", x.rename(0, 'e'), 1);
        x.undo();
        check.due("count(7) behind undo", x.count(7), 0);
        check.due("rename(0, f)", x.rename(0, 'f'), 1);
        x.sheet(0, 0, 1);
        check.due("read of one byte", x.read(0), 1);
        check.due("count(7) behind read", x.count(7), 0);
        x.undo();
        check.due("rename(0, g)", x.rename(0, 'g'), 1);
        check.due("text", Check.textOf(x), "+gb");
        x.wipe();
        check.due("count(7) behind wipe", x.count(7), 0);
        check.due("back() behind wipe", x.back(), NOT);
    }

    /** Where no byte was told, all that is known stays known. */
    private static void keeping() {
        RenameGraph x = Check.of("+a" + "{}".repeat(9) + "^^^c".repeat(20));
        x.rename(0, 'b');
        check.due("type when full", x.type('a'), RenameGraph.FULL);
        check.due("type of no byte", x.type(-1), BAD);
        x.sheet(0, 0, 1);
        check.due("read when full", x.read(0), 0);
        check.due("count(7)", x.count(7), 1);
        check.due("back()", x.back(), 0);
        RenameGraph y = Check.of("+a");
        y.rename(0, 'b');
        y.sheet(0, 0, 0);
        check.due("read of no items", y.read(0), 0);
        check.due("read of a lost one", y.read(1), -11);
        y.sheet(0, 1, 2);
        y.put(0, 1, 0, -1);
        check.due("read of no byte", y.read(0), 0);
        check.due("count(7) behind no byte", y.count(7), 1);
        check.due("back()", y.back(), 0);
    }

    private static void lastTwenty() {
        RenameGraph x = Check.of("+a");
        for (int k = 1; k <= 25; k++) {
            check.due("rename " + k, x.rename(0, 'a' + k), 1);
            check.due("count(7)", x.count(7), Math.min(k, 20));
        }
        for (int k = 19; k >= 0; k--) {
            check.due("back()", x.back(), k);
            check.due("name", x.node(0, 1), 'a' + 5 + k);
        }
        check.due("back() of none", x.back(), NOT);
        check.due("text", Check.textOf(x), "+f");
    }
}
