/** The edges that the document names for the text (Terms, promises 1 to 7), each sentence by itself. */
public final class TextEdgesTest {
    private static final int NONE = RenameGraph.NONE, BAD = RenameGraph.BAD;
    private static final int NOT = RenameGraph.NOT, FULL = RenameGraph.FULL;
    private static final int[] NO_SHEETS = {Integer.MIN_VALUE, -2, -1, 4, 5, 256, Integer.MAX_VALUE};
    private static final String LETTERS = "abcdefghijklmnopqrstuvwxyz";
    private static final Check check = new Check("TextEdgesTest");

    public static void main(String[] args) {
        noText();
        allSheetsAreLost();
        bytes();
        noBytes();
        upToAHundred();
        fullAndNoByte();
        wipes();
        undoes();
        undoOfNothing();
        namesAreLetters();
        outsAreNoneToThree();
        itemsNoneToo();
        whatGoesOn();
        scopesOneToNine();
        aLesserOneThatIsEnded();
        figuresOfNoSuchScope();
        sixtyNodes();
        itsEndIfNotEnded();
        endOfAFullText();
        secondDeclarations();
        theFirstByteOfSeveral();
        faultThatIsNone();
        asIfEmpty();
        noLongerEmpty();
        toldAnew();
        readsAsManyAsMay();
        readsUpToTheEnd();
        readsNoneAtAll();
        readsBytesAlone();
        readRefused();
        showsZeroToNinetyNine();
        showsNoMore();
        check.end();
    }

    // ---- promise 1

    private static void noText() {
        check.sentence("No TEXT");
        RenameGraph x = new RenameGraph();
        check.due("fault()", x.fault(), NONE);
        for (int i = 0; i < 100; i++) {
            check.due("shown(" + i + ")", x.shown(i), NONE);
        }
        int[] counts = {0, 0, 1, 0, 0, 0, 0, 0, 0};
        for (int what = 0; what <= 8; what++) {
            check.due("count(" + what + ")", x.count(what), counts[what]);
        }
        check.due("node(0, 0)", x.node(0, 0), BAD);
        check.due("idle()", x.idle(), 0);
        int[] scope = {NONE, NONE, 0, 0};
        for (int what = 0; what <= 3; what++) {
            check.due("scope(0, " + what + ")", x.scope(0, what), scope[what]);
        }
        for (char name = 'a'; name <= 'z'; name++) {
            check.due("own(0, " + name + ")", x.own(0, name), NONE);
        }
        check.due("back()", x.back(), NOT);
    }

    private static void allSheetsAreLost() {
        check.sentence("all SHEETS are LOST");
        for (int s = 0; s <= 3; s++) {
            check.due("read(" + s + ")", new RenameGraph().read(s), -11);
            check.due("lose(" + s + ")", new RenameGraph().lose(s), -11);
            check.due("write(" + s + ")", new RenameGraph().write(s), -11);
            for (int form = 0; form <= 2; form++) {
                RenameGraph x = new RenameGraph();
                check.due("put(" + s + ", " + form + ", 0, 0)", x.put(s, form, 0, 0), -11);
                RenameGraph y = new RenameGraph();
                check.due("get(" + s + ", " + form + ", 0)", y.get(s, form, 0), Integer.MIN_VALUE);
                check.due("count(8)", y.count(8), 1);
            }
            for (int t = 0; t <= 3; t++) {
                check.due("copy(" + s + ", 0, " + t + ", 0, 0)", new RenameGraph().copy(s, 0, t, 0, 0), -11);
            }
        }
    }

    // ---- promise 2

    private static void bytes() {
        check.sentence("A byte (0 to 255) comes behind THE TEXT: how many.");
        for (int b = 0; b <= 255; b++) {
            RenameGraph x = Check.of("{}");
            check.due("type(" + b + ")", x.type(b), 3);
            check.due("shown(2)", x.shown(2), b);
            check.due("shown(1)", x.shown(1), '}');
        }
    }

    private static void noBytes() {
        check.sentence("type: BAD");
        int[] values = {-1, 256, -128, -255, -256, 'a' + 256, 'a' - 256, Integer.MIN_VALUE, Integer.MAX_VALUE};
        for (int v : values) {
            check.refuses("type(" + v + ")", x -> { }, x -> x.type(v), BAD);
            check.refuses("type(" + v + ")", x -> Check.tell(x, "+a{b"), x -> x.type(v), BAD);
        }
    }

    /** The first bytes of a text that is full, with no fault, and with one declaration at its end. */
    private static String manyBytes(int n) {
        return ("{}".repeat(9) + "^^^a".repeat(20) + "+a").substring(0, n);
    }

    private static void upToAHundred() {
        check.sentence("THE TEXT has up to 100 bytes");
        RenameGraph x = new RenameGraph();
        for (int k = 1; k <= 100; k++) {
            check.due("type() number " + k, x.type(manyBytes(100).charAt(k - 1)), k);
            check.due("count(0)", x.count(0), k);
        }
        check.due("text", Check.textOf(x), manyBytes(100));
        check.sentence("type: FULL");
        for (int b : new int[] {0, 'a', '{', 255}) {
            check.refuses("type(" + b + ") number 101", y -> Check.tell(y, manyBytes(100)), y -> y.type(b), FULL);
        }
        check.due("type() number 101", x.type('a'), FULL);
        check.due("undo()", x.undo(), 99);
        check.due("type() number 100 again", x.type('b'), 100);
        check.due("type() number 101 again", x.type('b'), FULL);
    }

    private static void fullAndNoByte() {
        check.sentence("type: BAD; FULL");
        for (int v : new int[] {-1, 256, Integer.MIN_VALUE, Integer.MAX_VALUE}) {
            check.refuses("type(" + v + ") if full", x -> Check.tell(x, manyBytes(100)), x -> x.type(v), BAD);
        }
    }

    // ---- promises 3 and 4

    private static void wipes() {
        check.sentence("THE TEXT is empty: how many bytes it had.");
        for (int n : new int[] {0, 1, 2, 99, 100}) {
            RenameGraph x = Check.of(manyBytes(n));
            check.due("wipe() of " + n, x.wipe(), n);
            check.due("wipe() of none", x.wipe(), 0);
            check.due("fault()", x.fault(), NONE);
            check.due("undo()", x.undo(), NOT);
            check.due("type(a)", x.type('a'), 1);
            check.due("shown(1)", x.shown(1), NONE);
        }
        check.due("wipe() of a text with a fault", Check.of("+a}").wipe(), 3);
        String[] texts = {"", "+a{b}", "}", manyBytes(100)};
        for (String text : texts) {
            check.due("state behind wipe() of '" + text + "'", State.unlike(x -> { }, x -> {
                Check.tell(x, text);
                x.wipe();
            }), "");
        }
        check.due("sheets behind wipe()", State.unlike(TextEdgesTest::sheets, x -> {
            sheets(x);
            Check.tell(x, "+ab");
            x.wipe();
        }), "");
    }

    private static void sheets(RenameGraph x) {
        x.sheet(0, 0, 3);
        x.put(0, 0, 2, -7);
        x.sheet(1, 1, 0);
        x.sheet(2, 2, 60);
        x.put(2, 2, 59, 1 << 20);
    }

    private static void undoes() {
        check.sentence("The last byte is undone: how many are left.");
        RenameGraph x = Check.of(manyBytes(100));
        for (int k = 99; k >= 0; k--) {
            check.due("undo()", x.undo(), k);
            check.due("shown(" + k + ")", x.shown(k), NONE);
            check.due("count(0)", x.count(0), k);
        }
        String text = "+a{+b^a}{<1b}";
        for (int n = 0; n < text.length(); n++) {
            String left = text.substring(0, n);
            check.due("state behind undo() to '" + left + "'", State.unlike(y -> Check.tell(y, left), y -> {
                Check.tell(y, left + text.charAt(left.length()));
                y.undo();
            }), "");
        }
    }

    private static void undoOfNothing() {
        check.sentence("NOT: it is empty.");
        check.refuses("undo() of nothing", x -> { }, x -> x.undo(), NOT);
        check.refuses("undo() behind wipe()", x -> {
            Check.tell(x, "+ab");
            x.wipe();
        }, x -> x.undo(), NOT);
        RenameGraph x = Check.of("+");
        check.due("undo() of the last one", x.undo(), 0);
        check.due("undo() of nothing", x.undo(), NOT);
        check.due("type(a) behind it", x.type('a'), 1);
    }

    // ---- promise 5, with the terms of the text

    private static void fault(String text, int want) {
        check.due("fault() of '" + text + "'", Check.of(text).fault(), want);
    }

    private static void namesAreLetters() {
        check.sentence("a NAME (a letter a to z)");
        for (int b = 0; b <= 255; b++) {
            char c = (char) b;
            boolean name = LETTERS.indexOf(c) >= 0;
            fault("+" + c, name ? NONE : 1);
            fault("^^^" + c, name ? NONE : 3);
            boolean begins = "+^{".indexOf(c) >= 0;
            fault("{}" + c, name ? NONE : begins ? 3 : 2);
        }
    }

    private static void outsAreNoneToThree() {
        check.sentence("a USE: none to three ^ (OUTS) and a NAME");
        for (int outs = 0; outs <= 3; outs++) {
            RenameGraph x = Check.of("^".repeat(outs) + "k");
            check.due("fault() of " + outs, x.fault(), NONE);
            check.due("node(0, 3) of " + outs, x.node(0, 3), outs);
        }
        fault("^^^^", 3);
        fault("^^^^a", 3);
        fault("{^^^^a}", 4);
        fault("a^^^a^^^^a", 8);
        // a use ends the counting, so that the next has three again
        fault("^^^a^^^a", NONE);
    }

    private static void itemsNoneToo() {
        check.sentence("any number of ITEMS (none, too)");
        fault("", NONE);
        fault("{}", NONE);
        fault("{}{<1}", NONE);
        fault("{{}}", NONE);
        fault("{" + "a".repeat(60) + "}", NONE);
        fault("{" + "+" + String.join("+", LETTERS.split("")) + "}", NONE);
        check.due("count(1) of {}", Check.of("{}").count(1), 0);
        check.due("count(2) of {}{<1}", Check.of("{}{<1}").count(2), 3);
    }

    /** With which bytes a text goes on: with those it is either ended, or not ended yet. */
    private static void goesOn(String text, String with) {
        for (int b = 0; b <= 255; b++) {
            RenameGraph x = Check.of(text);
            x.type(b);
            boolean stops = x.fault() == text.length();
            check.due("'" + text + "' stops at " + b, stops ? 1 : 0, with.indexOf(b) < 0 ? 1 : 0);
            if (!stops) {
                check.holds("'" + text + "' and " + b, x.fault() == NONE || x.fault() == text.length() + 1);
            }
        }
    }

    private static void whatGoesOn() {
        check.sentence("the place of the first byte with which it cannot go on");
        goesOn("", LETTERS + "+^{");
        goesOn("a", LETTERS + "+^{");
        goesOn("+a", LETTERS + "+^{");
        goesOn("{}", LETTERS + "+^{");
        goesOn("+", LETTERS);
        goesOn("^", LETTERS + "^");
        goesOn("^^", LETTERS + "^");
        goesOn("^^^", LETTERS);
        goesOn("{", LETTERS + "+^{}<");
        goesOn("{a", LETTERS + "+^{}");
        goesOn("{{}", LETTERS + "+^{}");
        goesOn("{<", "");
        goesOn("{}{<", "1");
        goesOn("{{}{}{<", "23");
        goesOn("{}{<1", LETTERS + "+^{}");
        goesOn("+k{}+", LETTERS.replace("k", ""));
        goesOn("+k{+", LETTERS);
        goesOn("{}".repeat(9), LETTERS + "+^");
        goesOn("{}".repeat(8) + "{<", "12345678");
        goesOn("a".repeat(60), "+^{");
        goesOn("a".repeat(60) + "+", "");
        goesOn("a".repeat(60) + "^^", "^");
    }

    private static void scopesOneToNine() {
        check.sentence("others are numbered as they begin, 1 to 9; a FAULT: the { of a tenth");
        fault("{}".repeat(9), NONE);
        fault("{}".repeat(10), 18);
        fault("{".repeat(9) + "}".repeat(9), NONE);
        fault("{".repeat(10) + "}".repeat(10), 9);
        fault("{".repeat(9) + "}".repeat(9) + "{}", 18);
        fault("{{}{}{}{}{}{}{}{}}a", NONE);
        fault("{{}{}{}{}{}{}{}{}}a{", 19);
        fault("{{}{}{}{}{}{}{}{}{}}", 17);
        RenameGraph x = Check.of("{a{b}{c}}{d{e{f}{g}h}}{i}j");
        check.due("count(2)", x.count(2), 9);
        int[] scopes = {1, 2, 3, 4, 5, 6, 7, 5, 8, 0};
        for (int i = 0; i < scopes.length; i++) {
            check.due("node(" + i + ", 2)", x.node(i, 2), scopes[i]);
        }
    }

    private static void aLesserOneThatIsEnded() {
        check.sentence("a lesser one than its own, that is ended ahead");
        fault("{}{<1}", NONE);
        fault("{}{}{<1}", NONE);
        fault("{}{}{<2}", NONE);
        fault("{{}}{<2}", NONE);
        fault("{{}{<2}}", NONE);
        // one that is around it is not ended
        fault("{{<1}}", 3);
        fault("{}{{<2}}", 5);
        fault("{}{{<1}}", NONE);
        // the text itself is ended never
        fault("{<0}", 2);
        fault("{}{<0}", 4);
        // its own number, and those to come
        fault("{<1}", 2);
        fault("{}{<2}", 4);
        fault("{}{<3}{}", 4);
        // the last one, and the greatest figure
        fault("{}".repeat(8) + "{<8}", NONE);
        fault("{}".repeat(8) + "{<9}", 18);
        fault("{".repeat(9) + "}".repeat(9), NONE);
        fault("{".repeat(8) + "}".repeat(7) + "{<8}}", NONE);
        fault("{".repeat(8) + "}".repeat(7) + "{<2}}", NONE);
        fault("{".repeat(8) + "}".repeat(7) + "{<1}}", 17);
    }

    private static void figuresOfNoSuchScope() {
        check.sentence("a FAULT: a figure of no such SCOPE");
        for (int n = 0; n <= 8; n++) {
            for (int figure = 0; figure <= 9; figure++) {
                boolean there = figure >= 1 && figure <= n;
                fault("{}".repeat(n) + "{<" + figure + "}", there ? NONE : 2 * n + 2);
            }
        }
        for (String no : new String[] {"/", ":", "a", "}", "{", "+", "^", "<", " ", "-"}) {
            fault("{}{<" + no, 4);
        }
        // one figure alone
        fault("{}{<11}", 5);
        fault("{}{<01}", 4);
        // no other place for it
        fault("{}<1", 2);
        fault("{}{a<1}", 4);
        fault("{}{<1<1}", 5);
    }

    private static void sixtyNodes() {
        check.sentence("NODES, 60 at most; a FAULT: the NAME of a NODE more than 60");
        String all = "+" + String.join("+", LETTERS.split(""));
        fault("a".repeat(59), NONE);
        fault("a".repeat(60), NONE);
        fault("a".repeat(61), 60);
        fault(all + "b".repeat(34), NONE);
        fault(all + "b".repeat(35), 86);
        fault("b".repeat(59) + "+a", NONE);
        fault("b".repeat(60) + "+a", 61);
        fault("b".repeat(60) + "+", 61);
        fault("b".repeat(60) + "^^^a", 63);
        fault("b".repeat(60) + "{a}", 61);
        fault("{" + "b".repeat(60) + "}{}", NONE);
        check.due("count(1)", Check.of("a".repeat(60)).count(1), 60);
        check.due("node(59, 4)", Check.of("a".repeat(60)).node(59, 4), 59);
        check.due("node(60, 0)", Check.of("a".repeat(60)).node(60, 0), BAD);
    }

    private static void itsEndIfNotEnded() {
        check.sentence("its end, if it is not ended");
        fault("+", 1);
        fault("^", 1);
        fault("^^", 2);
        fault("^^^", 3);
        fault("{", 1);
        fault("{a", 2);
        fault("{{}", 3);
        fault("{<", 2);
        fault("{}{<", 4);
        fault("{}{<1", 5);
        fault("{}{<1a", 6);
        fault("a+", 2);
        fault("+a+b^", 5);
    }

    private static void endOfAFullText() {
        check.sentence("its end, if it is not ended (of 100 bytes)");
        String most = manyBytes(98);
        fault(most + "+a", NONE);
        fault(most + "a+", 100);
        fault(most + "a^", 100);
        fault(most + "^^", 100);
        fault(most + "++", 99);
        fault("{" + manyBytes(98).substring(2) + "aaa", 100);
        fault("{" + manyBytes(98).substring(2) + "aa}", NONE);
        fault("{" + manyBytes(98).substring(2) + "a}}", 99);
        fault("}" + manyBytes(99), 0);
    }

    private static void secondDeclarations() {
        check.sentence("the NAME of a second DECLARATION of that NAME in one SCOPE (not those within it)");
        fault("+a+a", 3);
        fault("+z+a+z", 5);
        fault("+a{+a}", NONE);
        fault("+a{{+a}+a}", NONE);
        fault("{+a}+a", NONE);
        fault("{+a}{+a}", NONE);
        fault("{+a}{<1+a}", NONE);
        fault("{+a}{<1+a+a}", 10);
        fault("+a{+b}+a", 7);
        fault("+a{+a{+a}+a}", 10);
        fault("{+a{}+a}", 6);
        fault("+aa+b", NONE);
        fault("aa+a", NONE);
    }

    private static void theFirstByteOfSeveral() {
        check.sentence("the first byte with which it cannot go on");
        fault("+a+a+b+b}}", 3);
        fault("}+a+a", 0);
        fault("{<9}^^^^", 2);
        fault("^^^^{<9}", 3);
        fault("+a+a{", 3);
        fault("a".repeat(61) + "}", 60);
        // a name that is one of two, and one too many: one place tells both
        fault("+a" + "b".repeat(59) + "+a", 62);
        fault("{}".repeat(10) + "}", 18);
        RenameGraph x = Check.of("a}");
        for (String more : new String[] {"{", "}", "+", "a"}) {
            Check.tell(x, more);
            check.due("fault() stays", x.fault(), 1);
        }
    }

    private static void faultThatIsNone() {
        check.sentence("The FAULT; NONE.");
        String text = "+a{+b^a{<2}}";
        fault("+a{+b^a{}}", NONE);
        fault(text, 9);
        String whole = "+a{+b^^a}{<1{^^^bz}}+z";
        int[] due = {-1, 1, -1, 3, 4, 5, 6, 7, 8, -1, 10, 11, 12, 13, 14, 15, 16, 17, 18, 19, -1, 21, -1};
        for (int n = 0; n <= whole.length(); n++) {
            fault(whole.substring(0, n), due[n]);
        }
    }

    // ---- with a fault

    private static void asIfEmpty() {
        check.sentence("With a FAULT it is as if it was empty.");
        String[] texts = {"+a{+ba}a}", "+a+bab+a", "+aa{", "+a^", "+a{b}{<3}", "a".repeat(61), "{}".repeat(10)};
        for (String text : texts) {
            RenameGraph x = Check.of(text);
            int[] counts = {text.length(), 0, 1, 0, 0, 0, 0, 0, 0};
            for (int what = 0; what <= 8; what++) {
                check.due("count(" + what + ") of " + text, x.count(what), counts[what]);
            }
            noNodes(x, text);
            check.due("shown(0) of " + text, x.shown(0), text.charAt(0));
            check.due("text", Check.textOf(x), text);
            x.sheet(0, 2, 60);
            check.due("write(0) of " + text, x.write(0), 0);
            check.due("undo() of " + text, x.undo(), text.length() - 1);
        }
    }

    private static void noNodes(RenameGraph x, String text) {
        for (int i = 0; i <= 1; i++) {
            check.due("node of " + text, x.node(i, 0), BAD);
            check.due("bound of " + text, x.bound(i), BAD);
            check.due("family of " + text, x.family(i), Check.refused(BAD));
            check.due("uses of " + text, x.uses(i), Check.refused(BAD));
            check.due("hides of " + text, x.hides(i), BAD);
            check.due("plan of " + text, x.plan(i, 'c', 0), BAD);
            check.due("edits of " + text, x.edits(i, 'c', 0), BAD);
            check.due("caught of " + text, x.caught(i, 'c', 0), BAD);
            check.due("easy of " + text, x.easy(i), BAD);
            check.due("rename of " + text, x.rename(i, 'c'), BAD);
        }
        check.due("idle of " + text, x.idle(), 0);
        check.due("own(0, a) of " + text, x.own(0, 'a'), NONE);
        check.due("own(1, a) of " + text, x.own(1, 'a'), BAD);
        check.due("scope(1, 0) of " + text, x.scope(1, 0), BAD);
        for (int what = 0; what <= 3; what++) {
            check.due("scope(0, " + what + ") of " + text, x.scope(0, what), what < 2 ? NONE : 0);
        }
    }

    private static void noLongerEmpty() {
        check.sentence("With a FAULT it is as if it was empty (and without it no more).");
        RenameGraph x = Check.of("+a{a");
        check.due("count(1)", x.count(1), 0);
        x.type('}');
        check.due("count(1) when it is ended", x.count(1), 2);
        check.due("bound(1)", x.bound(1), 0);
        x.type('}');
        check.due("count(1) with a byte too many", x.count(1), 0);
        x.undo();
        check.due("count(1) without it", x.count(1), 2);
        check.due("count(2)", x.count(2), 2);
    }

    private static void toldAnew() {
        check.sentence("THE TEXT is empty (and a new one has nothing of it)");
        String[] texts = {
            "", "{}", "{}{}{}", "{{<1}}", "{}{{<2}}", "{", "{{", "+", "+a", "+a+a", "^^^", "^^^^", "aa", "{<", "{}{<",
            "{}{<1+a}", "{+a+b}{<1+b}", "+a{+b{+c^^a}}", "}", "a".repeat(60), "a".repeat(61), "{}".repeat(10),
        };
        for (String ahead : texts) {
            for (String text : texts) {
                RenameGraph x = Check.of(ahead);
                x.wipe();
                Check.tell(x, text);
                RenameGraph y = Check.of(ahead);
                while (y.undo() > 0) {
                    y.fault();
                }
                Check.tell(y, text);
                RenameGraph due = Check.of(text);
                check.due("fault() of '" + text + "' behind '" + ahead + "'", x.fault(), due.fault());
                check.due("digest() of '" + text + "' behind '" + ahead + "'", x.digest(), due.digest());
                check.due("digest() of '" + text + "' behind '" + ahead + "' undone", y.digest(), due.digest());
            }
        }
    }

    // ---- promise 6

    private static void row(RenameGraph x, int s, int form, String bytes) {
        x.sheet(s, form, bytes.length());
        for (int k = 0; k < bytes.length(); k++) {
            x.put(s, form, k, bytes.charAt(k));
        }
    }

    private static void readsAsManyAsMay() {
        check.sentence("Bytes from a SHEET come behind THE TEXT: its items, as many as may: how many.");
        String bytes = ("+a{+b" + "ab".repeat(30)).substring(0, 59) + "}";
        for (int form = 0; form <= 2; form++) {
            for (int n : new int[] {0, 1, 2, 59, 60}) {
                RenameGraph x = Check.of("c");
                row(x, form, form, bytes.substring(0, n));
                check.due("read() of " + n, x.read(form), n);
                check.due("text", Check.textOf(x), "c" + bytes.substring(0, n));
                check.due("read() of " + n + " again", x.read(form), Math.min(n, 99 - n));
                check.due("the items stay", x.lose(form), n);
            }
        }
        int from = 1;
        check.due("state behind read()", State.unlike(x -> {
            row(x, from, 1, "+a{b}");
            Check.tell(x, "{^a}+a{b}");
        }, x -> {
            row(x, from, 1, "+a{b}");
            Check.tell(x, "{^a}");
            x.read(from);
        }), "");
    }

    private static void readsUpToTheEnd() {
        check.sentence("THE TEXT has up to 100 bytes (read)");
        for (int n : new int[] {0, 39, 40, 41, 98, 99, 100}) {
            RenameGraph x = Check.of(manyBytes(n));
            row(x, 3, 0, "b".repeat(60));
            int may = Math.min(60, 100 - n);
            check.due("read() behind " + n, x.read(3), may);
            check.due("count(0)", x.count(0), n + may);
            check.due("text", Check.textOf(x), manyBytes(n) + "b".repeat(may));
        }
    }

    private static void readsNoneAtAll() {
        check.sentence("as many as may (none, too)");
        check.refuses("read() if full", x -> {
            Check.tell(x, manyBytes(100));
            row(x, 0, 0, "abc");
        }, x -> x.read(0), 0);
        check.refuses("read() of no items", x -> {
            Check.tell(x, "+ab");
            row(x, 0, 2, "");
        }, x -> x.read(0), 0);
        check.refuses("read() of no byte", x -> {
            Check.tell(x, "+ab");
            row(x, 2, 2, "aaa");
            x.put(2, 2, 0, 256);
            x.rename(0, 'c');
        }, x -> x.read(2), 0);
    }

    private static void readsBytesAlone() {
        check.sentence("Bytes from a SHEET (0 to 255)");
        int[] last = {127, 255, 255};
        for (int form = 0; form <= 2; form++) {
            RenameGraph x = new RenameGraph();
            x.sheet(0, form, 3);
            x.put(0, form, 0, 0);
            x.put(0, form, 1, last[form]);
            x.put(0, form, 2, last[form] + 1);
            check.due("read() of form " + form, x.read(0), 2);
            check.due("shown(0)", x.shown(0), 0);
            check.due("shown(1)", x.shown(1), last[form]);
            x.put(0, form, 1, -1);
            check.due("read() up to -1", x.read(0), 1);
            check.due("count(0)", x.count(0), 3);
        }
    }

    private static void readRefused() {
        check.sentence("read: BAD; NULL");
        for (int s : NO_SHEETS) {
            check.refuses("read(" + s + ")", x -> {
                Check.tell(x, "+ab");
                sheets(x);
            }, x -> x.read(s), BAD);
        }
        check.finds("read(3) of a lost one", x -> {
            Check.tell(x, "+ab");
            sheets(x);
            x.rename(0, 'c');
        }, x -> x.read(3), -11, 1);
        check.finds("read(2) of one that was lost", x -> {
            sheets(x);
            x.lose(2);
        }, x -> x.read(2), -11, 1);
        check.finds("read(3) of a lost one if full", x -> Check.tell(x, manyBytes(100)), x -> x.read(3), -11, 1);
    }

    // ---- promise 7

    private static void showsZeroToNinetyNine() {
        check.sentence("Byte i (0 to 99) of THE TEXT; NONE.");
        for (int n : new int[] {0, 1, 50, 99, 100}) {
            RenameGraph x = Check.of(manyBytes(n));
            for (int i = 0; i < 100; i++) {
                check.due("shown(" + i + ") of " + n, x.shown(i), i < n ? manyBytes(n).charAt(i) : NONE);
            }
        }
    }

    private static void showsNoMore() {
        check.sentence("shown: BAD");
        for (int i : new int[] {-1, 100, -100, 256, Integer.MIN_VALUE, Integer.MAX_VALUE}) {
            check.refuses("shown(" + i + ")", x -> { }, x -> x.shown(i), BAD);
            check.refuses("shown(" + i + ") if full", x -> Check.tell(x, manyBytes(100)), x -> x.shown(i), BAD);
        }
    }
}
