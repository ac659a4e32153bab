import java.util.Random;

/** All promises: long runs of calls by a fixed seed, held against the Oracle. */
public final class RandomTest {
    private static final int RUNS = 500, CALLS = 512;
    private static final Check check = new Check("RandomTest");

    private final Random random;
    private final String names;
    private RenameGraph x = new RenameGraph();
    private Oracle o = new Oracle();
    private int calls = 0;

    private RandomTest(long seed) {
        random = new Random(seed);
        names = "abcx".substring(0, 2 + random.nextInt(3)) + "defghijk".substring(0, random.nextInt(9) / 4);
    }

    public static void main(String[] args) {
        for (int k = 0; k < RUNS; k++) {
            new RandomTest(k).run();
        }
        int[] plans = new int[4];
        for (int k = 0; k < 4 * RUNS; k++) {
            new RandomTest(k).planRun(plans);
        }
        for (int p = 0; p < 4; p++) {
            check.holds("plan " + (p - 1) + " is met often: " + plans[p], plans[p] > 100);
        }
        check.end();
    }

    private void due(String call, long got, long want) {
        calls++;
        check.due("'" + o.text + "' " + call, got, want);
    }

    private int among(int n) {
        return random.nextInt(n);
    }

    // ---- texts

    private String text(int bytes) {
        StringBuilder b = new StringBuilder();
        int[] state = {0, 0};
        items(b, bytes, 0, state);
        return b.length() > 100 ? b.substring(0, 100) : b.toString();
    }

    /** state: how many scopes there are, and bits of those that are ended. */
    private void items(StringBuilder b, int bytes, int depth, int[] state) {
        int declared = 0;
        while (b.length() < bytes && (depth == 0 || among(7) > 0)) {
            int kind = among(9);
            char name = names.charAt(among(names.length()));
            if (kind < 3 && (declared & 1 << name - 'a') == 0) {
                declared |= 1 << name - 'a';
                b.append('+').append(name);
            } else if (kind < 5 && state[0] < 9) {
                int number = ++state[0];
                b.append('{');
                int base = 1 + among(9);
                if ((state[1] & 1 << base) != 0) {
                    b.append('<').append(base);
                }
                items(b, bytes, depth + 1, state);
                b.append('}');
                state[1] |= 1 << number;
            } else {
                b.append("^".repeat(Math.max(0, among(6) - 2))).append(name);
            }
        }
    }

    private String spoiled(String text) {
        StringBuilder b = new StringBuilder(text);
        if (b.length() > 0) {
            b.setCharAt(among(b.length()), "+^{}<0123a bz\u00ff".charAt(among(14)));
        }
        return b.toString();
    }

    private void tellText() {
        int kind = among(10);
        String t = text(kind < 7 ? 10 + among(25) : 40 + among(61));
        t = among(8) == 0 ? spoiled(t) : t;
        due("wipe()", x.wipe(), o.wipe());
        if (t.length() > 60 || among(2) == 0) {
            tellBySheets(t);
        } else {
            for (int k = 0; k < t.length(); k++) {
                due("type(" + t.charAt(k) + ")", x.type(t.charAt(k)), o.type(t.charAt(k)));
            }
        }
    }

    private void tellBySheets(String t) {
        for (int from = 0; from < t.length(); from += 60) {
            String part = t.substring(from, Math.min(t.length(), from + 60));
            int form = among(3);
            due("sheet", x.sheet(0, form, part.length()), o.sheet(0, form, part.length()));
            for (int k = 0; k < part.length(); k++) {
                due("put", x.put(0, form, k, part.charAt(k)), o.put(0, form, k, part.charAt(k)));
            }
            due("read(0)", x.read(0), o.read(0));
        }
    }

    // ---- runs

    private void run() {
        while (calls < CALLS - 102) {
            tellText();
            for (int k = 20 + among(60); k > 0 && calls < CALLS - 102; k--) {
                oneCall();
            }
        }
        due("digest()", x.digest(), o.digest());
    }

    /** Every plan of every declaration of one text, then the text as it becomes. */
    private void planRun(int[] plans) {
        String t = text(8 + among(40));
        x = Check.of(t);
        for (int k = 0; k < t.length(); k++) {
            o.type(t.charAt(k));
        }
        for (int i = 0; i < o.count(1); i++) {
            int name = someName();
            for (int p = 0; p < 3; p++) {
                due("edits(" + i + ", " + (char) name + ", " + p + ")", x.edits(i, name, p), o.edits(i, name, p));
            }
            int best = o.plan(i, name, 0);
            due("plan(" + i + ", " + (char) name + ", 0)", x.plan(i, name, 0), best);
            plans[best >= -1 ? best + 1 : 0] += best >= -1 ? 1 : 0;
            due("caught(" + i + ", " + (char) name + ", 0)", x.caught(i, name, 0), o.caught(i, name, 0));
            due("caught(" + i + ", " + (char) name + ", 1)", x.caught(i, name, 1), o.caught(i, name, 1));
            due("rename(" + i + ", " + (char) name + ")", x.rename(i, name), o.rename(i, name));
            check.due("text", Check.textOf(x), o.text);
        }
        int steps = o.count(7);
        for (int k = 0; k <= steps; k++) {
            due("back()", x.back(), o.back());
            check.due("text", Check.textOf(x), o.text);
        }
    }

    private int someNode() {
        int n = o.parseSize();
        return among(12) == 0 ? among(70) - 4 : n == 0 ? 0 : among(n);
    }

    private int someName() {
        int kind = among(20);
        return kind == 0 ? 90 + among(40) : kind < 4 ? 'a' + among(26) : names.charAt(among(names.length()));
    }

    private int someIndex() {
        int kind = among(30);
        return kind == 0 ? Integer.MAX_VALUE : kind == 1 ? Integer.MIN_VALUE : among(10) - 1;
    }

    private int someValue() {
        int kind = among(3);
        return kind == 0 ? random.nextInt() : kind == 1 ? among(256) : "+^{}<1abc".charAt(among(9));
    }

    private void oneCall() {
        int kind = among(10);
        if (kind < 4) {
            nodeCall();
        } else if (kind < 7) {
            nameCall();
        } else if (kind < 9) {
            sheetCall();
        } else {
            textCall();
        }
    }

    private void textCall() {
        int b = among(6) == 0 ? among(300) - 20 : someValue() & 255;
        switch (among(8)) {
            case 0: due("type(" + b + ")", x.type(b), o.type(b)); break;
            case 1: due("undo()", x.undo(), o.undo()); break;
            case 2: due("fault()", x.fault(), o.fault()); break;
            default:
                int i = among(110) - 5;
                due("shown(" + i + ")", x.shown(i), o.shown(i));
                break;
        }
    }

    private void nodeCall() {
        int i = someNode();
        int what = among(7) - 1;
        int s = among(12) - 1;
        int name = someName();
        switch (among(9)) {
            case 0: due("node(" + i + ", " + what + ")", x.node(i, what), o.node(i, what)); break;
            case 1: due("scope(" + s + ", " + what + ")", x.scope(s, what), o.scope(s, what)); break;
            case 2: due("bound(" + i + ")", x.bound(i), o.bound(i)); break;
            case 3: due("own(" + s + ", " + name + ")", x.own(s, name), o.own(s, name)); break;
            case 4: due("family(" + i + ")", x.family(i), o.family(i)); break;
            case 5: due("uses(" + i + ")", x.uses(i), o.uses(i)); break;
            case 6: due("hides(" + i + ")", x.hides(i), o.hides(i)); break;
            case 7: due("idle()", x.idle(), o.idle()); break;
            default:
                int c = among(12) - 1;
                due("count(" + c + ")", x.count(c), o.count(c));
                break;
        }
    }

    private void nameCall() {
        int i = someNode();
        int name = someName();
        int what = among(10) == 0 ? among(6) - 2 : among(2);
        String with = "(" + i + ", " + name + ", " + what + ")";
        switch (among(8)) {
            case 0: due("plan" + with, x.plan(i, name, what), o.plan(i, name, what)); break;
            case 1: due("edits" + with, x.edits(i, name, what), o.edits(i, name, what)); break;
            case 2: due("edits 2", x.edits(i, name, 2), o.edits(i, name, 2)); break;
            case 3: due("caught" + with, x.caught(i, name, what), o.caught(i, name, what)); break;
            case 4: due("easy(" + i + ")", x.easy(i), o.easy(i)); break;
            case 5:
            case 6: due("rename" + with, x.rename(i, name), o.rename(i, name)); break;
            default: due("back()", x.back(), o.back()); break;
        }
    }

    private void sheetCall() {
        int s = among(20) == 0 ? among(8) - 2 : among(4);
        int t = among(20) == 0 ? among(8) - 2 : among(4);
        int form = among(20) == 0 ? among(7) - 2 : among(3);
        int i = someIndex();
        int j = someIndex();
        int n = among(10) == 0 ? someIndex() : among(4);
        int v = someValue();
        int size = among(8) == 0 ? among(90) - 20 : among(12);
        switch (among(9)) {
            case 0:
            case 1: due("sheet", x.sheet(s, form, size), o.sheet(s, form, size)); break;
            case 2: due("lose", x.lose(s), o.lose(s)); break;
            case 3: due("put", x.put(s, form, i, v), o.put(s, form, i, v)); break;
            case 4:
            case 5: due("get", x.get(s, form, i), o.get(s, form, i)); break;
            case 6: due("copy", x.copy(s, i, t, j, n), o.copy(s, i, t, j, n)); break;
            case 7: due("write", x.write(s), o.write(s)); break;
            default:
                due("count(8)", x.count(8), o.count(8));
                if (among(6) == 0) {
                    due("read", x.read(s), o.read(s));
                }
                break;
        }
    }
}
