/**
 * Every text of a few signs, up to a length: where it has a fault, and, where
 * it has none, all that is told of it and each name that a declaration can be
 * given, held against the Oracle.
 */
public final class SmallTest {
    private static final Check check = new Check("SmallTest");

    private final String signs;
    private final int longest;
    private final int names;
    private int whole = 0;

    private SmallTest(String signs, int longest, int names) {
        this.signs = signs;
        this.longest = longest;
        this.names = names;
    }

    public static void main(String[] args) {
        all(new SmallTest("+^{}<ab1", 7, 3), "uses that go out", 5000);
        all(new SmallTest("+{}<a12", 11, 2), "scopes that extend others", 20000);
        all(new SmallTest("+^a", 11, 2), "one scope", 100);
        check.end();
    }

    private static void all(SmallTest s, String what, int atLeast) {
        s.from("");
        check.holds(what + ": texts without a fault, " + s.whole, s.whole >= atLeast);
    }

    /** A text, and all that go on from it, if any can. */
    private void from(String text) {
        RenameGraph x = Check.of(text);
        Oracle o = told(text);
        int fault = x.fault();
        check.due("'" + text + "' fault()", fault, o.fault());
        if (fault == RenameGraph.NONE) {
            whole++;
            check.due("'" + text + "' digest()", x.digest(), o.digest());
            declarations(text, x, o);
        }
        boolean broken = fault != RenameGraph.NONE && fault < text.length();
        for (int k = 0; k < signs.length() && text.length() < longest && !broken; k++) {
            from(text + signs.charAt(k));
        }
    }

    private static Oracle told(String text) {
        Oracle o = new Oracle();
        for (int k = 0; k < text.length(); k++) {
            o.type(text.charAt(k));
        }
        return o;
    }

    private void declarations(String text, RenameGraph x, Oracle o) {
        for (int i = 0; i < x.count(1); i++) {
            for (int name = 'a'; name < 'a' + names && x.node(i, 0) == 0; name++) {
                String what = "'" + text + "' (" + i + ", " + (char) name + ")";
                for (int plan = 0; plan <= 2; plan++) {
                    check.due(what + " edits() " + plan, x.edits(i, name, plan), o.edits(i, name, plan));
                }
                check.due(what + " caught() 0", x.caught(i, name, 0), o.caught(i, name, 0));
                check.due(what + " caught() 1", x.caught(i, name, 1), o.caught(i, name, 1));
                thereAndBack(what, text, i, name);
            }
        }
    }

    private static void thereAndBack(String what, String text, int i, int name) {
        RenameGraph x = Check.of(text);
        Oracle o = told(text);
        int edits = x.rename(i, name);
        check.due(what + " rename()", edits, o.rename(i, name));
        check.due(what + " the text behind it", Check.textOf(x), o.text);
        check.due(what + " back()", x.back(), edits >= 0 ? 0 : RenameGraph.NOT);
        check.due(what + " the text again", Check.textOf(x), text);
    }
}
