import java.util.Arrays;

/**
 * Each call with every mixture of numbers at the edges (the least and the most
 * of an int, those at both ends of what the document tells, and those beside
 * them), on texts and sheets that are empty, small and full, held against the
 * Oracle: so that of two refusals at once the first is answered.
 */
public final class GridTest {
    private static final int LEAST = Integer.MIN_VALUE, MOST = Integer.MAX_VALUE;
    private static final int[] WIDE = {LEAST, LEAST + 1, -256, -2, -1, 0, 1, 2, 3, 4, 5, 6, 8, 9, 10, 11, 20, 21,
        59, 60, 61, 63, 64, 99, 100, 101, 127, 128, 255, 256, MOST - 1, MOST};
    private static final int[] NODES = {LEAST, -1, 0, 1, 2, 3, 4, 5, 6, 7, 20, 58, 59, 60, 61, 64, MOST};
    private static final int[] NAMES = {LEAST, -1, 0, 'A', 'Z', '`', 'a', 'b', 'c', 'x', 'z', '{', 'a' + 256, MOST};
    private static final int[] SMALL = {LEAST, -1, 0, 1, 2, 3, 4, MOST};
    private static final int[] ITEMS = {LEAST, -1, 0, 1, 2, 3, 59, 60, 61, MOST};
    private static final String[] TEXTS = {
        "", "a", "+a", "+a{+ba}{<1+bc}d", "+a+bab", "+a{{{b}}}", "+a}", "{+a}{<1+a}{<2a}",
        "{}".repeat(9) + "^^^a".repeat(20) + "+a", "a".repeat(58) + "+a+b",
    };
    private static final Check check = new Check("GridTest");

    private final String text;
    private RenameGraph x;
    private Oracle o;
    private int calls;

    private GridTest(String text) {
        this.text = text;
        anew();
    }

    public static void main(String[] args) {
        for (String text : TEXTS) {
            GridTest g = new GridTest(text);
            g.oneNumber();
            g.twoNumbers();
            g.names();
            g.sheets();
            g.copies();
            g.changes();
        }
        check.end();
    }

    private void anew() {
        x = new RenameGraph();
        o = new Oracle();
        calls = text.length() + 4;
        for (int k = 0; k < text.length(); k++) {
            x.type(text.charAt(k));
            o.type(text.charAt(k));
        }
        int[] sizes = {0, 2, 60};
        for (int s = 0; s <= 2; s++) {
            x.sheet(s, s == 2 ? 2 : 0, sizes[s]);
            o.sheet(s, s == 2 ? 2 : 0, sizes[s]);
        }
        x.put(1, 0, 1, 'a');
        o.put(1, 0, 1, 'a');
    }

    /** An object is good for 512 calls: one that has had most of them gives way to a new one. */
    private void next() {
        calls++;
        if (calls > 490) {
            check.due("digest() of '" + text + "' behind all", x.digest(), o.digest());
            anew();
        }
    }

    private void due(String call, long got, long want, int... with) {
        calls += 2;
        check.due("'" + text + "' " + call + Arrays.toString(with), got, want);
        check.due("'" + text + "' count(8) behind " + call, x.count(8), o.count(8));
    }

    private void oneNumber() {
        for (int v : WIDE) {
            next();
            due("shown", x.shown(v), o.shown(v), v);
            due("bound", x.bound(v), o.bound(v), v);
            due("family", x.family(v), o.family(v), v);
            due("uses", x.uses(v), o.uses(v), v);
            due("hides", x.hides(v), o.hides(v), v);
            due("easy", x.easy(v), o.easy(v), v);
            due("count", x.count(v), o.count(v), v);
        }
    }

    private void twoNumbers() {
        for (int v : WIDE) {
            for (int w : WIDE) {
                next();
                due("node", x.node(v, w), o.node(v, w), v, w);
                due("scope", x.scope(v, w), o.scope(v, w), v, w);
            }
            for (int name : NAMES) {
                next();
                due("own", x.own(v, name), o.own(v, name), v, name);
            }
        }
    }

    private void names() {
        for (int i : NODES) {
            for (int name : NAMES) {
                for (int what : SMALL) {
                    next();
                    due("plan", x.plan(i, name, what), o.plan(i, name, what), i, name, what);
                    due("edits", x.edits(i, name, what), o.edits(i, name, what), i, name, what);
                    due("caught", x.caught(i, name, what), o.caught(i, name, what), i, name, what);
                }
            }
        }
    }

    private void sheets() {
        for (int s : SMALL) {
            for (int form : SMALL) {
                for (int i : ITEMS) {
                    next();
                    due("get", x.get(s, form, i), o.get(s, form, i), s, form, i);
                    due("put", x.put(s, form, i, i), o.put(s, form, i, i), s, form, i);
                    due("get", x.get(s, form, i), o.get(s, form, i), s, form, i);
                }
            }
        }
    }

    private void copies() {
        for (int s : SMALL) {
            for (int t : SMALL) {
                for (int i : ITEMS) {
                    for (int j : ITEMS) {
                        for (int n : ITEMS) {
                            next();
                            check.due("'" + text + "' copy of " + n, x.copy(s, i, t, j, n), o.copy(s, i, t, j, n));
                        }
                    }
                }
                due("get", x.get(1, 0, 1), o.get(1, 0, 1), s, t);
            }
        }
    }

    /** Calls that change more: each on a new object, with a look at what it left. */
    private void changes() {
        for (int v : WIDE) {
            anew();
            due("type", x.type(v), o.type(v), v);
            alike("type", v);
            anew();
            due("read", x.read(v), o.read(v), v);
            alike("read", v);
            anew();
            due("lose", x.lose(v), o.lose(v), v);
            due("lose again", x.lose(v), o.lose(v), v);
            anew();
            due("write", x.write(v), o.write(v), v);
            due("get", x.get(2, 2, 0), o.get(2, 2, 0), v);
        }
        for (int s : SMALL) {
            for (int form : SMALL) {
                for (int n : WIDE) {
                    anew();
                    due("sheet", x.sheet(s, form, n), o.sheet(s, form, n), s, form, n);
                    due("lose", x.lose(s), o.lose(s), s);
                }
            }
        }
        for (int i : NODES) {
            for (int name : NAMES) {
                anew();
                due("rename", x.rename(i, name), o.rename(i, name), i, name);
                alike("rename", i, name);
                due("back", x.back(), o.back(), i, name);
                alike("back", i, name);
            }
        }
    }

    private void alike(String call, int... with) {
        due("digest() behind " + call, x.digest(), o.digest(), with);
        check.due("text behind " + call, Check.textOf(x), o.text);
    }
}
