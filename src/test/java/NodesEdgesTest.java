import java.util.function.Consumer;

/** The edges that the document names for nodes and scopes (Terms, promises 8 to 15), each sentence by itself. */
public final class NodesEdgesTest {
    private static final int NONE = RenameGraph.NONE, BAD = RenameGraph.BAD, NOT = RenameGraph.NOT;
    private static final int LEAST = Integer.MIN_VALUE, MOST = Integer.MAX_VALUE;
    private static final String LETTERS = "abcdefghijklmnopqrstuvwxyz";
    private static final String ALL_DECLARED = "+" + String.join("+", LETTERS.split(""));
    private static final Check check = new Check("NodesEdgesTest");

    public static void main(String[] args) {
        theTextIsScopeZero();
        numberedTogether();
        nodeOfEachKind();
        nodeAtTheEnds();
        nodeRefused();
        scopeThatIsInNone();
        scopeThatExtendsNone();
        scopeEmptyAndFull();
        notThoseWithinOthers();
        scopeRefused();
        aheadOfItToo();
        ownElseOfTheExtended();
        ownOfEachName();
        ownRefused();
        outAsManyTimesAsOutsTell();
        beyondScopeZero();
        everOneFartherOut();
        boundRefused();
        familyOfOne();
        familyAndSoOn();
        familyRefused();
        usesOfNoneAndAll();
        usesRefused();
        hidesNone();
        hidesFarOut();
        hidesRefused();
        idleNoneAndAll();
        check.end();
    }

    // ---- terms

    private static void theTextIsScopeZero() {
        check.sentence("THE TEXT itself is SCOPE 0");
        check.due("scope(0, 3) of a", Check.of("a").scope(0, 3), 1);
        check.due("node(0, 2) of a", Check.of("a").node(0, 2), 0);
        check.due("own(0, a) of +a", Check.of("+a").own(0, 'a'), 0);
        check.due("scope(0, 0) of nothing", Check.of("").scope(0, 0), NONE);
        check.due("scope(1, 0) of nothing", Check.of("").scope(1, 0), BAD);
        check.due("scope(1, 0) of {}", Check.of("{}").scope(1, 0), 0);
    }

    private static void numberedTogether() {
        check.sentence("DECLARATIONS and USES are numbered together as they come, 0 on");
        RenameGraph x = Check.of("a+b{c+d{^e}f}+g");
        String names = "abcdefg";
        String uses = "1010110";
        for (int i = 0; i < names.length(); i++) {
            check.due("node(" + i + ", 1)", x.node(i, 1), names.charAt(i));
            check.due("node(" + i + ", 0)", x.node(i, 0), uses.charAt(i) - '0');
        }
        check.due("count(1)", x.count(1), names.length());
    }

    // ---- promise 8

    private static void node(String text, int i, int... due) {
        RenameGraph x = Check.of(text);
        for (int what = 0; what <= 4; what++) {
            check.due("node(" + i + ", " + what + ") of '" + text + "'", x.node(i, what), due[what]);
        }
    }

    private static void nodeOfEachKind() {
        check.sentence("Whether it is a USE, its NAME as a byte, SCOPE, OUTS (of a DECLARATION 0), the place of its NAME");
        node("a", 0, 1, 'a', 0, 0, 0);
        node("z", 0, 1, 'z', 0, 0, 0);
        node("+a", 0, 0, 'a', 0, 0, 1);
        node("+z", 0, 0, 'z', 0, 0, 1);
        for (int outs = 0; outs <= 3; outs++) {
            node("^".repeat(outs) + "m", 0, 1, 'm', 0, outs, outs);
            // a declaration behind a use with outs has none
            node("^".repeat(outs) + "m+m", 1, 0, 'm', 0, 0, outs + 2);
            // nor has the next use those of the one ahead
            node("^".repeat(outs) + "mm", 1, 1, 'm', 0, 0, outs + 1);
        }
    }

    private static void nodeAtTheEnds() {
        check.sentence("NODES, 60 at most; SCOPES to 9; THE TEXT up to 100 bytes");
        String nine = "{".repeat(9);
        node(nine + "^^^q" + "}".repeat(9), 0, 1, 'q', 9, 3, 12);
        node(nine + "+q" + "}".repeat(9), 0, 0, 'q', 9, 0, 10);
        node(nine + "}".repeat(9) + "q", 0, 1, 'q', 0, 0, 18);
        node("{}".repeat(9) + "^^^a".repeat(20) + "+b", 20, 0, 'b', 0, 0, 99);
        node("{}".repeat(9) + "^^^a".repeat(20) + "^b", 20, 1, 'b', 0, 1, 99);
        node("a".repeat(58) + "+y+z", 58, 0, 'y', 0, 0, 59);
        node("a".repeat(58) + "+y+z", 59, 0, 'z', 0, 0, 61);
        node("a".repeat(59) + "^^^z", 59, 1, 'z', 0, 3, 62);
    }

    private static void nodeRefused() {
        check.sentence("node: BAD");
        for (String text : new String[] {"", "a", "+ab{c}", "a".repeat(60), "+ab}"}) {
            Consumer<RenameGraph> past = x -> Check.tell(x, text);
            int n = Check.of(text).count(1);
            for (int i : new int[] {LEAST, -1, n, n + 1, MOST}) {
                check.refuses("node(" + i + ", 0)", past, x -> x.node(i, 0), BAD);
                check.due("node(" + i + ", 5)", Check.of(text).node(i, 5), BAD);
            }
            for (int what : new int[] {LEAST, -1, 5, 6, MOST}) {
                check.refuses("node(0, " + what + ")", past, x -> x.node(0, what), BAD);
            }
        }
        RenameGraph x = Check.of("a".repeat(60));
        check.due("node(59, 0), the last", x.node(59, 0), 1);
        check.due("node(60, 0), one more", x.node(60, 0), BAD);
        check.due("node(0, 4), the last", x.node(0, 4), 0);
        check.due("node(0, 5), one more", x.node(0, 5), BAD);
    }

    // ---- promise 9

    private static void scope(String text, int s, int... due) {
        RenameGraph x = Check.of(text);
        for (int what = 0; what <= 3; what++) {
            check.due("scope(" + s + ", " + what + ") of '" + text + "'", x.scope(s, what), due[what]);
        }
    }

    private static void scopeThatIsInNone() {
        check.sentence("The SCOPE in which it is (what = 0; NONE)");
        scope("", 0, NONE, NONE, 0, 0);
        scope("{}", 0, NONE, NONE, 0, 0);
        scope("{}", 1, 0, NONE, 0, 0);
        RenameGraph deep = Check.of("{".repeat(9) + "}".repeat(9));
        RenameGraph flat = Check.of("{}".repeat(9));
        for (int s = 0; s <= 9; s++) {
            check.due("scope(" + s + ", 0) within", deep.scope(s, 0), s - 1);
            check.due("scope(" + s + ", 0) beside", flat.scope(s, 0), s == 0 ? NONE : 0);
        }
    }

    private static void scopeThatExtendsNone() {
        check.sentence("that it EXTENDS (1; NONE)");
        StringBuilder chain = new StringBuilder("{}");
        for (int s = 2; s <= 9; s++) {
            chain.append("{<").append(s - 1).append("}");
        }
        RenameGraph x = Check.of(chain.toString());
        for (int s = 0; s <= 9; s++) {
            check.due("scope(" + s + ", 1) of a chain", x.scope(s, 1), s < 2 ? NONE : s - 1);
        }
        scope("{}{<1{}}", 2, 0, 1, 0, 0);
        // what is within one that extends does not extend itself
        scope("{}{<1{}}", 3, 2, NONE, 0, 0);
        scope("{{}{<2}}", 3, 1, 2, 0, 0);
        // a text told anew keeps nothing of it
        RenameGraph y = Check.of("{}{<1}");
        y.wipe();
        Check.tell(y, "{}{}");
        check.due("scope(2, 1) behind wipe()", y.scope(2, 1), NONE);
    }

    private static void scopeEmptyAndFull() {
        check.sentence("DECLARATIONS in it (2), USES in it (3)");
        scope("a".repeat(60), 0, NONE, NONE, 0, 60);
        scope("{" + "a".repeat(60) + "}", 1, 0, NONE, 0, 60);
        scope("{" + "a".repeat(60) + "}", 0, NONE, NONE, 0, 0);
        scope(ALL_DECLARED, 0, NONE, NONE, 26, 0);
        scope("{" + ALL_DECLARED + "a".repeat(34) + "}", 1, 0, NONE, 26, 34);
        scope("{+a}{<1}", 2, 0, 1, 0, 0);
    }

    private static void notThoseWithinOthers() {
        check.sentence("not those within others in it");
        String text = "+aa{+bbb{+c+dccc}b}a";
        scope(text, 0, NONE, NONE, 1, 2);
        scope(text, 1, 0, NONE, 1, 3);
        scope(text, 2, 1, NONE, 2, 3);
    }

    private static void scopeRefused() {
        check.sentence("scope: BAD");
        for (String text : new String[] {"", "+a{b}", "{}".repeat(9), "{{}"}) {
            Consumer<RenameGraph> past = x -> Check.tell(x, text);
            int n = Check.of(text).count(2);
            for (int s : new int[] {LEAST, -1, n, n + 1, MOST}) {
                check.refuses("scope(" + s + ", 0)", past, x -> x.scope(s, 0), BAD);
                check.due("scope(" + s + ", 4)", Check.of(text).scope(s, 4), BAD);
            }
            for (int what : new int[] {LEAST, -1, 4, 5, MOST}) {
                check.refuses("scope(0, " + what + ")", past, x -> x.scope(0, what), BAD);
            }
        }
        RenameGraph x = Check.of("{}".repeat(9));
        check.due("scope(9, 0), the last", x.scope(9, 0), 0);
        check.due("scope(10, 0), one more", x.scope(10, 0), BAD);
        check.due("scope(9, 3), the last", x.scope(9, 3), 0);
        check.due("scope(9, 4), one more", x.scope(9, 4), BAD);
    }

    // ---- promise 10, and how a use is bound

    private static void bound(String text, int use, int due) {
        check.due("bound(" + use + ") of '" + text + "'", Check.of(text).bound(use), due);
    }

    private static void aheadOfItToo() {
        check.sentence("A DECLARATION is there for its whole SCOPE, ahead of it, too.");
        bound("a+a", 0, 1);
        bound("+aa", 1, 0);
        bound("a".repeat(59) + "+a", 0, 59);
        bound("{{{a}}}+a", 0, 1);
        bound("+a{a{+a}}", 1, 0);
        bound("+a{a+a}", 1, 2);
        bound("{a}{+a}", 0, NONE);
        bound("{+a}a", 1, NONE);
        // what extends one has it ahead of its own, too
        bound("{+a}{<1a+b}", 1, 0);
        bound("{+a}{<1a+a}", 1, 2);
    }

    private static void ownElseOfTheExtended() {
        check.sentence("OWN of a SCOPE and a NAME is its DECLARATION of that NAME; else OWN of the SCOPE that it EXTENDS; NONE.");
        RenameGraph x = Check.of("+d{+a+b}{<1+b+c}{<2+c}{<1}");
        //              a     b     c     d
        int[][] due = {{NONE, NONE, NONE, 0}, {1, 2, NONE, NONE}, {1, 3, 4, NONE}, {1, 3, 5, NONE}, {1, 2, NONE, NONE}};
        for (int s = 0; s < due.length; s++) {
            for (int k = 0; k < 4; k++) {
                check.due("own(" + s + ", " + (char) ('a' + k) + ")", x.own(s, 'a' + k), due[s][k]);
            }
        }
        StringBuilder chain = new StringBuilder("{+a}");
        for (int s = 2; s <= 9; s++) {
            chain.append("{<").append(s - 1).append("}");
        }
        RenameGraph y = Check.of(chain.toString());
        for (int s = 0; s <= 9; s++) {
            check.due("own(" + s + ", a) of a chain", y.own(s, 'a'), s == 0 ? NONE : 0);
        }
        // what is around it is not its own, nor what is within
        RenameGraph z = Check.of("+a{{+b}}");
        check.due("own(1, a)", z.own(1, 'a'), NONE);
        check.due("own(1, b)", z.own(1, 'b'), NONE);
    }

    private static void ownOfEachName() {
        check.sentence("a NAME (a byte a to z)");
        RenameGraph x = Check.of(ALL_DECLARED + "{}{" + "+z+a" + "}");
        for (int k = 0; k < 26; k++) {
            check.due("own(0, " + (char) ('a' + k) + ")", x.own(0, 'a' + k), k);
            check.due("own(1, " + (char) ('a' + k) + ")", x.own(1, 'a' + k), NONE);
            check.due("own(2, " + (char) ('a' + k) + ")", x.own(2, 'a' + k), k == 0 ? 27 : k == 25 ? 26 : NONE);
        }
    }

    private static void ownRefused() {
        check.sentence("own: BAD");
        for (String text : new String[] {"", "+a{+b}", "{+a}" + "{}".repeat(8), "+a{"}) {
            Consumer<RenameGraph> past = x -> Check.tell(x, text);
            int n = Check.of(text).count(2);
            for (int s : new int[] {LEAST, -1, n, n + 1, MOST}) {
                check.refuses("own(" + s + ", a)", past, x -> x.own(s, 'a'), BAD);
                check.due("own(" + s + ", {)", Check.of(text).own(s, '{'), BAD);
            }
            for (int name : new int[] {LEAST, -1, 0, 25, 'Z', '`', '{', 'a' + 256, MOST}) {
                check.refuses("own(0, " + name + ")", past, x -> x.own(0, name), BAD);
            }
        }
    }

    private static void outAsManyTimesAsOutsTell() {
        check.sentence("from its SCOPE it goes out as many times as OUTS tell, to the SCOPE in which that is");
        // a declaration of a in each of four scopes, and a use in the innermost
        String text = "+a{+a{+a{+a%sa}}}";
        for (int outs = 0; outs <= 3; outs++) {
            bound(String.format(text, "^".repeat(outs)), 4, 3 - outs);
        }
        // not to the scope that is extended
        bound("{+a}{+a}{<1+a^a}", 3, NONE);
        bound("+a{+a}{<1+a^a}", 3, 0);
    }

    private static void beyondScopeZero() {
        check.sentence("beyond SCOPE 0 there is none: it is UNBOUND");
        for (int depth = 0; depth <= 4; depth++) {
            for (int outs = 0; outs <= 3; outs++) {
                String text = "+a" + "{".repeat(depth) + "^".repeat(outs) + "a" + "}".repeat(depth);
                bound(text, 1, outs <= depth ? 0 : NONE);
                check.due("count(4) of " + text, Check.of(text).count(4), outs <= depth ? 0 : 1);
            }
        }
        bound("a", 0, NONE);
        bound("b+a", 0, NONE);
    }

    private static void everOneFartherOut() {
        check.sentence("there, and then ever one farther out, OWN is looked for: the first that there is");
        String nine = "{".repeat(9);
        bound("+a" + nine + "a" + "}".repeat(9), 1, 0);
        bound("+a" + nine + "^^^a" + "}".repeat(9), 1, 0);
        bound("+b" + nine + "a" + "}".repeat(9), 1, NONE);
        for (int at = 1; at <= 9; at++) {
            String text = "+a" + "{".repeat(at) + "+a" + "{".repeat(9 - at) + "a" + "}".repeat(9);
            bound(text, 2, 1);
        }
        // the extended one of a scope is ahead of what is farther out
        bound("{+a}+a{<1{{a}}}", 2, 0);
        bound("{+a}{<1+a{{a}}}", 2, 1);
        bound("{+a}{<1{+a{a}}}", 2, 1);
    }

    private static void boundRefused() {
        check.sentence("bound: NONE. BAD; NOT: it is a DECLARATION.");
        String text = "+ab{+c^a}";
        Consumer<RenameGraph> past = x -> Check.tell(x, text);
        for (int i : new int[] {LEAST, -1, 4, 5, 60, MOST}) {
            check.refuses("bound(" + i + ")", past, x -> x.bound(i), BAD);
        }
        check.refuses("bound(0)", past, x -> x.bound(0), NOT);
        check.refuses("bound(2)", past, x -> x.bound(2), NOT);
        check.due("bound(1)", Check.of(text).bound(1), NONE);
        check.due("bound(3)", Check.of(text).bound(3), 0);
        check.due("bound(59) of sixty", Check.of("a".repeat(60)).bound(59), NONE);
        check.due("bound(60) of sixty", Check.of("a".repeat(60)).bound(60), BAD);
        check.due("bound(59) that is a declaration", Check.of("a".repeat(59) + "+a").bound(59), NOT);
    }

    // ---- promises 12 to 15

    private static void family(String text, int i, int... members) {
        check.due("family(" + i + ") of '" + text + "'", Check.of(text).family(i), Check.bits(members));
    }

    private static void familyOfOne() {
        check.sentence("The FAMILY of a DECLARATION, as bits of NODES (of one alone)");
        family("+a", 0, 0);
        family("a".repeat(59) + "+a", 59, 59);
        family("+a{+a}", 0, 0);
        family("+a{+a}", 1, 1);
        family("{+a}{+a}", 1, 1);
        family("{+a}{<1+b}", 0, 0);
        family("{+a}{<1+b}", 1, 1);
        family("+a{}{<1+a}", 0, 0);
        family("{{+a}}{<1+a}", 0, 0);
        // uses are never of it
        family("+aaa", 0, 0);
    }

    private static void familyAndSoOn() {
        check.sentence("what is of one FAMILY with one is of one with all of these");
        StringBuilder chain = new StringBuilder("{+a}");
        StringBuilder fan = new StringBuilder("{+a}");
        StringBuilder gaps = new StringBuilder("{+a}");
        for (int s = 2; s <= 9; s++) {
            chain.append("{<").append(s - 1).append("+a}");
            fan.append("{<1+a}");
            gaps.append("{<").append(s - 1).append(s % 2 == 1 ? "+a}" : "}");
        }
        for (int i = 0; i <= 8; i++) {
            family(chain.toString(), i, 0, 1, 2, 3, 4, 5, 6, 7, 8);
            family(fan.toString(), i, 0, 1, 2, 3, 4, 5, 6, 7, 8);
        }
        for (int i = 0; i <= 4; i++) {
            family(gaps.toString(), i, 0, 1, 2, 3, 4);
        }
        check.due("count(5) of a chain", Check.of(chain.toString()).count(5), 1);
        // two families of two names in the same scopes, and two of one name in others
        String two = "{+a+b}{<1+b+a}{+a}{<3+a}";
        family(two, 0, 0, 3);
        family(two, 1, 1, 2);
        family(two, 4, 4, 5);
        check.due("count(5) of " + two, Check.of(two).count(5), 3);
        // bits beyond those of an int
        family("c".repeat(40) + "{+a}{<1+a}", 40, 40, 41);
        family("c".repeat(58) + "{+a}{<1+a}", 59, 58, 59);
    }

    private static void familyRefused() {
        check.sentence("family: BAD; NOT: it is a USE. (A refusal -x is the least long and x more.)");
        Consumer<RenameGraph> past = x -> Check.tell(x, "+ab{+c^a}");
        for (int i : new int[] {LEAST, -1, 4, 5, 60, 64, MOST}) {
            check.refuses("family(" + i + ")", past, x -> x.family(i), Long.MIN_VALUE + 2);
        }
        check.refuses("family(1)", past, x -> x.family(1), Long.MIN_VALUE + 3);
        check.refuses("family(3)", past, x -> x.family(3), Long.MIN_VALUE + 3);
        check.refuses("family(0) of nothing", x -> { }, x -> x.family(0), Long.MIN_VALUE + 2);
    }

    private static void usesOfNoneAndAll() {
        check.sentence("USES that are BOUND to a DECLARATION, as bits of NODES.");
        check.due("uses(0) of +a", Check.of("+a").uses(0), 0);
        check.due("uses(0) of +ab", Check.of("+ab").uses(0), 0);
        check.due("uses(0) of +a^a", Check.of("+a^a").uses(0), 0);
        check.due("uses(59)", Check.of("a".repeat(59) + "+a").uses(59), (1L << 59) - 1);
        check.due("uses(0)", Check.of("+a" + "a".repeat(59)).uses(0), (1L << 60) - 2);
        check.due("uses(0) with the last one", Check.of("+a" + "b".repeat(58) + "a").uses(0), 1L << 59);
        // those bound to others of its family are not its own
        RenameGraph x = Check.of("{+aa}{<1a+a}{<1a}");
        check.due("uses(0) of a family", x.uses(0), Check.bits(1, 4));
        check.due("uses(3) of a family", x.uses(3), Check.bits(2));
    }

    private static void usesRefused() {
        check.sentence("uses: BAD; NOT: it is a USE. (A refusal -x is the least long and x more.)");
        Consumer<RenameGraph> past = x -> Check.tell(x, "+ab{+c^a}");
        for (int i : new int[] {LEAST, -1, 4, 5, 60, 64, MOST}) {
            check.refuses("uses(" + i + ")", past, x -> x.uses(i), Long.MIN_VALUE + 2);
        }
        check.refuses("uses(1)", past, x -> x.uses(1), Long.MIN_VALUE + 3);
        check.refuses("uses(3)", past, x -> x.uses(3), Long.MIN_VALUE + 3);
        check.refuses("uses(0) of nothing", x -> { }, x -> x.uses(0), Long.MIN_VALUE + 2);
    }

    private static void hides(String text, int i, int due) {
        check.due("hides(" + i + ") of '" + text + "'", Check.of(text).hides(i), due);
    }

    private static void hidesNone() {
        check.sentence("HIDES; NONE.");
        hides("+a", 0, NONE);
        hides("+a{+a}", 0, NONE);
        hides("+a{+b}", 1, NONE);
        hides("{+a}+a", 0, 1);
        hides("{+a}{+a}", 1, NONE);
        hides("{+a}{<1+a}", 1, NONE);
        hides("{{+a}}", 0, NONE);
    }

    private static void hidesFarOut() {
        check.sentence("that to which a USE of its NAME, with no OUTS, in the SCOPE around its own would be BOUND");
        hides("+a{+a}", 1, 0);
        hides("{+a}+a", 0, 1);
        hides("+a" + "{".repeat(9) + "+a" + "}".repeat(9), 1, 0);
        hides("+a{+a{+a}}", 2, 1);
        hides("+a{+a{+a}}", 1, 0);
        hides("+a{+b{+a}}", 2, 0);
        // by what the scope around it extends, and not by what its own does
        hides("{+a}{<1{+a}}", 1, 0);
        hides("+a{+a}{<1+a}", 2, 0);
        hides("+a{+a}{<1+b{+a}}", 3, 1);
    }

    private static void hidesRefused() {
        check.sentence("hides: BAD; NOT: it is a USE.");
        Consumer<RenameGraph> past = x -> Check.tell(x, "+ab{+c^a}");
        for (int i : new int[] {LEAST, -1, 4, 5, 60, MOST}) {
            check.refuses("hides(" + i + ")", past, x -> x.hides(i), BAD);
        }
        check.refuses("hides(1)", past, x -> x.hides(1), NOT);
        check.refuses("hides(3)", past, x -> x.hides(3), NOT);
        check.refuses("hides(0) of nothing", x -> { }, x -> x.hides(0), BAD);
    }

    private static void idleNoneAndAll() {
        check.sentence("IDLE are DECLARATIONS to which no USE is BOUND.");
        check.due("idle() of nothing", Check.of("").idle(), 0);
        check.due("idle() of uses alone", Check.of("a".repeat(60)).idle(), 0);
        check.due("idle() of a fault", Check.of("+a+a").idle(), 0);
        check.due("idle() of all names", Check.of(ALL_DECLARED).idle(), (1L << 26) - 1);
        check.due("idle() of all names but one", Check.of(ALL_DECLARED + "z").idle(), (1L << 25) - 1);
        check.due("idle() of the last", Check.of("b".repeat(59) + "+a").idle(), 1L << 59);
        check.due("idle() of none", Check.of("a".repeat(59) + "+a").idle(), 0);
        check.due("idle() of one beyond", Check.of("+a^a").idle(), 1);
        // a use that is bound to another of its family does not count for it
        check.due("idle() of a family", Check.of("{+a}{<1+aa}").idle(), Check.bits(0));
    }
}
