/** Promises 8 to 15: nodes, scopes, what is bound to what, families. */
public final class NodesTest {
    private static final int NONE = RenameGraph.NONE, BAD = RenameGraph.BAD, NOT = RenameGraph.NOT;
    private static final Check check = new Check("NodesTest");

    public static void main(String[] args) {
        nodes();
        scopes();
        bindings();
        bindingsByOuts();
        owns();
        families();
        familiesFarApart();
        usesOfOne();
        hiding();
        idleOnes();
        sixtyNodes();
        check.end();
    }

    private static void nodes() {
        //                       0  1    2    3
        RenameGraph x = Check.of("+a{^^b{+z}}c");
        int[][] due = {{0, 'a', 0, 0, 1}, {1, 'b', 1, 2, 5}, {0, 'z', 2, 0, 8}, {1, 'c', 0, 0, 11}};
        for (int i = 0; i < 4; i++) {
            for (int what = 0; what < 5; what++) {
                check.due("node(" + i + ", " + what + ")", x.node(i, what), due[i][what]);
            }
        }
        check.due("node(4, 0)", x.node(4, 0), BAD);
        check.due("node(-1, 0)", x.node(-1, 0), BAD);
        check.due("node(0, 5)", x.node(0, 5), BAD);
        check.due("node(0, -1)", x.node(0, -1), BAD);
        check.due("node(min, min)", x.node(Integer.MIN_VALUE, Integer.MIN_VALUE), BAD);
        check.due("node(max, max)", x.node(Integer.MAX_VALUE, Integer.MAX_VALUE), BAD);
    }

    private static void scopes() {
        RenameGraph x = Check.of("+a b{c{+d e f}}{<2+g}h".replace(" ", ""));
        int[][] due = {{NONE, NONE, 1, 2}, {0, NONE, 0, 1}, {1, NONE, 1, 2}, {0, 2, 1, 0}};
        for (int s = 0; s < 4; s++) {
            for (int what = 0; what < 4; what++) {
                check.due("scope(" + s + ", " + what + ")", x.scope(s, what), due[s][what]);
            }
        }
        check.due("scope(4, 0)", x.scope(4, 0), BAD);
        check.due("scope(-1, 0)", x.scope(-1, 0), BAD);
        check.due("scope(0, 4)", x.scope(0, 4), BAD);
        check.due("scope(0, -1)", x.scope(0, -1), BAD);
    }

    /** What each node is bound to, a declaration being told as itself. */
    private static void bound(String text, int... due) {
        RenameGraph x = Check.of(text);
        check.due("count(1) of " + text, x.count(1), due.length);
        for (int i = 0; i < due.length; i++) {
            int want = x.node(i, 0) == 0 ? NOT : due[i];
            check.due("bound(" + i + ") of " + text, x.bound(i), want);
        }
        check.due("bound behind all of " + text, x.bound(due.length), BAD);
        check.due("bound(-1) of " + text, x.bound(-1), BAD);
    }

    private static void bindings() {
        bound("+aa", 0, 0);
        bound("a+a", 1, 1);
        bound("b+a", NONE, 1);
        bound("+a{a}", 0, 0);
        bound("{+a}a", 0, NONE);
        bound("+a{a+a}", 0, 2, 2);
        bound("+a{{a}+a}", 0, 2, 2);
        bound("{+a}{<1a}", 0, 0);
        bound("+a{+a}{<1a}a", 0, 1, 1, 0);
        bound("{+a}{<1}{<2a{a}}", 0, 0, 0);
        bound("+a{+b}{<1a}", 0, 1, 0);
        bound("+a{{+a}}{<2a}{<1a}", 0, 1, 1, 0);
        // what the extended scope stands in is not looked at
        bound("{+a{+b}}{<2a}", 0, 1, NONE);
        // extended ahead of farther out
        bound("+a{+a}{{<1{a}}}", 0, 1, 1);
    }

    private static void bindingsByOuts() {
        bound("+a^a", 0, NONE);
        bound("+a{^a}", 0, 0);
        bound("+a{+a^a}", 0, 1, 0);
        bound("+a{+a{+aa^a^^a^^^a}}", 0, 1, 2, 2, 1, 0, NONE);
        bound("+a{{{^a^^a^^^a}}}", 0, 0, 0, 0);
        bound("+a{{{{{{{{{a^^^a}}}}}}}}}", 0, 0, 0);
        bound("{+a}{<1^a}", 0, NONE);
        bound("{+a}{<1{^a}}", 0, 0);
    }

    private static void owns() {
        RenameGraph x = Check.of("+c{+a}{<1+b}{<2+a}");
        check.due("own(1, a)", x.own(1, 'a'), 1);
        check.due("own(2, a)", x.own(2, 'a'), 1);
        check.due("own(2, b)", x.own(2, 'b'), 2);
        check.due("own(3, a)", x.own(3, 'a'), 3);
        check.due("own(3, b)", x.own(3, 'b'), 2);
        check.due("own(3, c)", x.own(3, 'c'), NONE);
        check.due("own(0, c)", x.own(0, 'c'), 0);
        check.due("own(0, z)", x.own(0, 'z'), NONE);
        check.due("own(0, {)", x.own(0, '{'), BAD);
        check.due("own(0, `)", x.own(0, '`'), BAD);
        check.due("own(4, a)", x.own(4, 'a'), BAD);
        check.due("own(-1, a)", x.own(-1, 'a'), BAD);
    }

    private static void families() {
        RenameGraph x = Check.of("+a{+a}{<1+a}{<1+b}{<2a+a}");
        check.due("family(0)", x.family(0), Check.bits(0));
        check.due("family(1)", x.family(1), Check.bits(1, 2, 5));
        check.due("family(2)", x.family(2), Check.bits(1, 2, 5));
        check.due("family(3)", x.family(3), Check.bits(3));
        check.due("family(4)", x.family(4), Check.refused(NOT));
        check.due("family(5)", x.family(5), Check.bits(1, 2, 5));
        check.due("family(6)", x.family(6), Check.refused(BAD));
        check.due("family(-1)", x.family(-1), Check.refused(BAD));
    }

    private static void familiesFarApart() {
        // two that extend one, with none of the name between
        RenameGraph x = Check.of("{+a}{<1}{<2+a}{<1+a}");
        check.due("family(0) of brothers", x.family(0), Check.bits(0, 1, 2));
        check.due("family(2) of brothers", x.family(2), Check.bits(0, 1, 2));
        // two that extend one which has none of the name are no family
        RenameGraph y = Check.of("{+b}{<1+a}{<1+a}");
        check.due("family(1) of strangers", y.family(1), Check.bits(1));
        check.due("family(2) of strangers", y.family(2), Check.bits(2));
    }

    private static void usesOfOne() {
        RenameGraph x = Check.of("+aa{a+b}^a");
        check.due("uses(0)", x.uses(0), Check.bits(1, 2));
        check.due("uses(3)", x.uses(3), 0);
        check.due("uses(1)", x.uses(1), Check.refused(NOT));
        check.due("uses(5)", x.uses(5), Check.refused(BAD));
        check.due("uses(-1)", x.uses(-1), Check.refused(BAD));
    }

    private static void hiding() {
        RenameGraph x = Check.of("+a+b{+a+c{+b}}a");
        check.due("hides(0)", x.hides(0), NONE);
        check.due("hides(2)", x.hides(2), 0);
        check.due("hides(3)", x.hides(3), NONE);
        check.due("hides(4)", x.hides(4), 1);
        check.due("hides(5)", x.hides(5), NOT);
        check.due("hides(6)", x.hides(6), BAD);
        check.due("hides(-1)", x.hides(-1), BAD);
        // what a scope extends is not around it, but what one around it extends is looked at
        RenameGraph y = Check.of("{+a}{<1+a{+a}}{<1{+a}}");
        check.due("hides(1) of an extending one", y.hides(1), NONE);
        check.due("hides(2) within", y.hides(2), 1);
        check.due("hides(3) by extension", y.hides(3), 0);
    }

    private static void idleOnes() {
        check.due("idle() of +a+bb", Check.of("+a+bb").idle(), Check.bits(0));
        check.due("idle() of a+a", Check.of("a+a").idle(), 0);
        check.due("idle() of {+a}a", Check.of("{+a}a").idle(), Check.bits(0));
    }

    private static void sixtyNodes() {
        RenameGraph x = Check.of("a".repeat(59) + "+a");
        check.due("count(1)", x.count(1), 60);
        check.due("uses(59)", x.uses(59), (1L << 59) - 1);
        check.due("family(59)", x.family(59), 1L << 59);
        check.due("node(59, 4)", x.node(59, 4), 60);
        check.due("idle()", x.idle(), 0);
        check.due("digest() twice", x.digest(), x.digest());
        x.undo();
        x.type('b');
        check.due("idle() of 59", x.idle(), 1L << 59);
    }
}
