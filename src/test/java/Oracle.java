import java.util.ArrayDeque;
import java.util.ArrayList;
import java.util.Deque;
import java.util.HashSet;
import java.util.List;
import java.util.Set;
import java.util.TreeSet;

/**
 * The document once more, written another way: with texts, sets and a parser
 * that goes down into scopes, and everything worked out anew at each call.
 */
final class Oracle {
    static final int NONE = -1, BAD = -2, NOT = -3, FULL = -4, LEAST = Integer.MIN_VALUE;

    /** A declaration or a use. */
    static final class Node {
        final boolean use;
        final Scope scope;
        final int place;
        char name;
        int outs;

        Node(boolean use, char name, int outs, Scope scope, int place) {
            this.use = use;
            this.name = name;
            this.outs = outs;
            this.scope = scope;
            this.place = place;
        }
    }

    static final class Scope {
        final int number;
        final Scope around;
        Scope extended;
        boolean ended;

        Scope(int number, Scope around) {
            this.number = number;
            this.around = around;
        }
    }

    /** A text as it is read: with a fault it is as if it was empty. */
    static final class Parse {
        final String text;
        int at = 0;
        int fault = NONE;
        List<Node> nodes = new ArrayList<>();
        List<Scope> scopes = new ArrayList<>();

        Parse(String text) {
            this.text = text;
            Scope whole = new Scope(0, null);
            scopes.add(whole);
            if (!items(whole) || at < text.length()) {
                fault = at;
                nodes = new ArrayList<>();
                scopes = new ArrayList<>();
                scopes.add(new Scope(0, null));
            }
        }

        private char peek() {
            return at < text.length() ? text.charAt(at) : (char) 0xFFFF;
        }

        private static boolean letter(char c) {
            return c >= 'a' && c <= 'z';
        }

        /** Items up to what begins none; false if one breaks off at 'at'. */
        private boolean items(Scope in) {
            while (true) {
                char c = peek();
                if (c == '+') {
                    at++;
                    if (!name(in, false, 0)) {
                        return false;
                    }
                } else if (c == '^' || letter(c)) {
                    int outs = 0;
                    while (peek() == '^' && outs < 3) {
                        outs++;
                        at++;
                    }
                    if (!name(in, true, outs)) {
                        return false;
                    }
                } else if (c == '{') {
                    if (!scope(in)) {
                        return false;
                    }
                } else {
                    return true;
                }
            }
        }

        private boolean name(Scope in, boolean use, int outs) {
            char c = peek();
            if (!letter(c) || nodes.size() == 60) {
                return false;
            }
            for (Node n : nodes) {
                if (!use && !n.use && n.scope == in && n.name == c) {
                    return false;
                }
            }
            nodes.add(new Node(use, c, outs, in, at));
            at++;
            return true;
        }

        private boolean scope(Scope in) {
            if (scopes.size() == 10) {
                return false;
            }
            Scope s = new Scope(scopes.size(), in);
            scopes.add(s);
            at++;
            if (peek() == '<') {
                at++;
                int figure = peek() - '0';
                if (figure < 0 || figure >= s.number || !scopes.get(figure).ended) {
                    return false;
                }
                s.extended = scopes.get(figure);
                at++;
            }
            if (!items(s) || peek() != '}') {
                return false;
            }
            at++;
            s.ended = true;
            return true;
        }
    }

    String text = "";
    final Deque<String> known = new ArrayDeque<>();
    final int[][] rows = new int[4][];
    final int[] forms = new int[4];
    int finding = 0;

    private Parse parsed;

    private Parse parse() {
        if (parsed == null || !parsed.text.equals(text)) {
            parsed = new Parse(text);
        }
        return parsed;
    }

    int parseSize() {
        return parse().nodes.size();
    }

    // ---- names as they are, or as they would be: over a list of nodes

    static int ownIn(List<Node> nodes, Scope s, char name) {
        if (s == null) {
            return NONE;
        }
        for (int i = 0; i < nodes.size(); i++) {
            Node n = nodes.get(i);
            if (!n.use && n.scope == s && n.name == name) {
                return i;
            }
        }
        return ownIn(nodes, s.extended, name);
    }

    static int from(List<Node> nodes, Scope s, int outs, char name) {
        if (s == null) {
            return NONE;
        }
        if (outs > 0) {
            return from(nodes, s.around, outs - 1, name);
        }
        int own = ownIn(nodes, s, name);
        return own != NONE ? own : from(nodes, s.around, 0, name);
    }

    static int boundOf(List<Node> nodes, int i) {
        Node n = nodes.get(i);
        return from(nodes, n.scope, n.outs, n.name);
    }

    /** All that can be reached from a declaration by steps to what it is of one family with. */
    static Set<Integer> familyOf(List<Node> nodes, int i) {
        Set<Integer> all = new TreeSet<>();
        Deque<Integer> open = new ArrayDeque<>();
        open.add(i);
        while (!open.isEmpty()) {
            int d = open.remove();
            if (all.add(d)) {
                for (int e = 0; e < nodes.size(); e++) {
                    if (!nodes.get(e).use && (upOf(nodes, d) == e || upOf(nodes, e) == d)) {
                        open.add(e);
                    }
                }
            }
        }
        return all;
    }

    private static int upOf(List<Node> nodes, int d) {
        Node n = nodes.get(d);
        return ownIn(nodes, n.scope.extended, n.name);
    }

    private static long bits(Set<Integer> set) {
        long b = 0;
        for (int i : set) {
            b |= 1L << i;
        }
        return b;
    }

    static List<Node> copyOf(List<Node> nodes) {
        List<Node> copy = new ArrayList<>();
        for (Node n : nodes) {
            copy.add(new Node(n.use, n.name, n.outs, n.scope, n.place));
        }
        return copy;
    }

    static boolean well(List<Node> was, List<Node> is) {
        Set<String> names = new HashSet<>();
        for (int i = 0; i < is.size(); i++) {
            Node n = is.get(i);
            if (n.use) {
                if (boundOf(was, i) != boundOf(is, i)) {
                    return false;
                }
            } else if (!names.add(n.scope.number + " " + n.name) || !familyOf(was, i).equals(familyOf(is, i))) {
                return false;
            }
        }
        return true;
    }

    static List<Node> justSo(List<Node> was, List<Node> start, int i, char name) {
        List<Node> is = copyOf(start);
        Set<Integer> family = familyOf(was, i);
        for (int k = 0; k < is.size(); k++) {
            if (family.contains(was.get(k).use ? boundOf(was, k) : k)) {
                is.get(k).name = name;
            }
        }
        return is;
    }

    /** The nodes as a plan would leave them, or null if it is not there. */
    private List<Node> planned(int i, char name, int plan) {
        List<Node> was = parse().nodes;
        List<Node> start = copyOf(was);
        if (plan == 2) {
            char spare = 'a';
            while (text.indexOf(spare) >= 0) {
                spare++;
            }
            if (spare > 'z') {
                return null;
            }
            for (int k = 0; k < was.size(); k++) {
                boolean there = !was.get(k).use || boundOf(was, k) != NONE;
                if (there && was.get(k).name == name) {
                    start.get(k).name = spare;
                }
            }
        }
        List<Node> is = justSo(was, start, i, name);
        for (int k = 0; plan > 0 && k < is.size(); k++) {
            if (is.get(k).use && boundOf(is, k) != boundOf(was, k)) {
                int outs = 0;
                do {
                    is.get(k).outs = outs++;
                } while (outs <= 3 && boundOf(is, k) != boundOf(was, k));
            }
        }
        return well(was, is) && spelled(is).length() <= 100 ? is : null;
    }

    private String spelled(List<Node> is) {
        StringBuilder b = new StringBuilder();
        int behind = 0;
        List<Node> was = parse().nodes;
        for (int k = 0; k < is.size(); k++) {
            int outsAt = was.get(k).place - was.get(k).outs;
            b.append(text, behind, outsAt);
            b.append("^".repeat(is.get(k).outs)).append(is.get(k).name);
            behind = was.get(k).place + 1;
        }
        return b.append(text.substring(behind)).toString();
    }

    private int editsOf(List<Node> is) {
        if (is == null) {
            return NONE;
        }
        int sum = 0;
        for (int k = 0; k < is.size(); k++) {
            Node n = parse().nodes.get(k);
            sum += (is.get(k).name != n.name ? 1 : 0) + Math.abs(is.get(k).outs - n.outs);
        }
        return sum;
    }

    private int best(int i, char name) {
        int best = NONE;
        for (int p = 2; p >= 0; p--) {
            int e = editsOf(planned(i, name, p));
            if (e != NONE && (best == NONE || e <= editsOf(planned(i, name, best)))) {
                best = p;
            }
        }
        return best;
    }

    // ---- the calls

    private void told(String now) {
        text = now;
        known.clear();
    }

    int type(int b) {
        if (b < 0 || b > 255) {
            return BAD;
        }
        if (text.length() == 100) {
            return FULL;
        }
        told(text + (char) b);
        return text.length();
    }

    int wipe() {
        int had = text.length();
        told("");
        return had;
    }

    int undo() {
        if (text.isEmpty()) {
            return NOT;
        }
        told(text.substring(0, text.length() - 1));
        return text.length();
    }

    int fault() {
        return parse().fault;
    }

    private int find(int number) {
        finding = number;
        return -10 - number;
    }

    private static boolean badSheet(int s) {
        return s < 0 || s > 3;
    }

    int read(int s) {
        if (badSheet(s)) {
            return BAD;
        }
        if (rows[s] == null) {
            return find(1);
        }
        int n = 0;
        for (int v : rows[s]) {
            if (type(v) < 0) {
                break;
            }
            n++;
        }
        return n;
    }

    int shown(int i) {
        return i < 0 || i > 99 ? BAD : i < text.length() ? text.charAt(i) : NONE;
    }

    private boolean noNode(int i) {
        return i < 0 || i >= parse().nodes.size();
    }

    int node(int i, int what) {
        if (noNode(i) || what < 0 || what > 4) {
            return BAD;
        }
        Node n = parse().nodes.get(i);
        return new int[] {n.use ? 1 : 0, n.name, n.scope.number, n.outs, n.place}[what];
    }

    int scope(int scope, int what) {
        if (scope < 0 || scope >= parse().scopes.size() || what < 0 || what > 3) {
            return BAD;
        }
        Scope s = parse().scopes.get(scope);
        int uses = 0;
        int declarations = 0;
        for (Node n : parse().nodes) {
            uses += n.scope == s && n.use ? 1 : 0;
            declarations += n.scope == s && !n.use ? 1 : 0;
        }
        int around = s.around == null ? NONE : s.around.number;
        int extended = s.extended == null ? NONE : s.extended.number;
        return new int[] {around, extended, declarations, uses}[what];
    }

    int bound(int i) {
        return noNode(i) ? BAD : !parse().nodes.get(i).use ? NOT : boundOf(parse().nodes, i);
    }

    private static boolean noName(int name) {
        return name < 'a' || name > 'z';
    }

    int own(int scope, int name) {
        if (scope < 0 || scope >= parse().scopes.size() || noName(name)) {
            return BAD;
        }
        return ownIn(parse().nodes, parse().scopes.get(scope), (char) name);
    }

    private int refusal(int i) {
        return noNode(i) ? BAD : parse().nodes.get(i).use ? NOT : 0;
    }

    long family(int i) {
        return refusal(i) != 0 ? Long.MIN_VALUE - refusal(i) : bits(familyOf(parse().nodes, i));
    }

    private Set<Integer> usesOf(int d) {
        Set<Integer> all = new TreeSet<>();
        for (int k = 0; k < parse().nodes.size(); k++) {
            if (parse().nodes.get(k).use && boundOf(parse().nodes, k) == d) {
                all.add(k);
            }
        }
        return all;
    }

    long uses(int i) {
        return refusal(i) != 0 ? Long.MIN_VALUE - refusal(i) : bits(usesOf(i));
    }

    int hides(int i) {
        if (refusal(i) != 0) {
            return refusal(i);
        }
        Node n = parse().nodes.get(i);
        return from(parse().nodes, n.scope.around, 0, n.name);
    }

    private Set<Integer> declarations() {
        Set<Integer> all = new TreeSet<>();
        for (int k = 0; k < parse().nodes.size(); k++) {
            if (!parse().nodes.get(k).use) {
                all.add(k);
            }
        }
        return all;
    }

    private Set<Integer> idleOnes() {
        Set<Integer> all = declarations();
        all.removeIf(d -> !usesOf(d).isEmpty());
        return all;
    }

    long idle() {
        return bits(idleOnes());
    }

    private int refusal(int i, int name, int what, int above) {
        return noNode(i) || noName(name) || what < 0 || what > above ? BAD : refusal(i);
    }

    int plan(int i, int name, int what) {
        int no = refusal(i, name, what, 1);
        if (no != 0) {
            return no;
        }
        int best = best(i, (char) name);
        return what == 0 || best == NONE ? best : editsOf(planned(i, (char) name, best));
    }

    int edits(int i, int name, int plan) {
        int no = refusal(i, name, plan, 2);
        return no != 0 ? no : editsOf(planned(i, (char) name, plan));
    }

    int caught(int i, int name, int what) {
        int no = refusal(i, name, what, 1);
        if (no != 0) {
            return no;
        }
        List<Node> was = parse().nodes;
        List<Node> is = justSo(was, was, i, (char) name);
        for (int k = 0; k < is.size(); k++) {
            if (is.get(k).use && boundOf(is, k) != boundOf(was, k)) {
                return what == 0 ? k : boundOf(is, k);
            }
        }
        return NONE;
    }

    int easy(int i) {
        int no = refusal(i);
        int all = 0;
        for (char c = 'a'; no == 0 && c <= 'z'; c++) {
            all |= planned(i, c, 0) != null ? 1 << c - 'a' : 0;
        }
        return no != 0 ? no : all;
    }

    int rename(int i, int name) {
        int no = refusal(i, name, 0, 0);
        if (no != 0) {
            return no;
        }
        int best = best(i, (char) name);
        if (best == NONE) {
            return NOT;
        }
        List<Node> is = planned(i, (char) name, best);
        int edits = editsOf(is);
        String then = spelled(is);
        known.addLast(text);
        if (known.size() > 20) {
            known.removeFirst();
        }
        text = then;
        return edits;
    }

    int back() {
        if (known.isEmpty()) {
            return NOT;
        }
        text = known.removeLast();
        return known.size();
    }

    int sheet(int s, int form, int n) {
        if (badSheet(s) || form < 0 || form > 2 || n > 60) {
            return BAD;
        }
        if (n < 0) {
            return find(5);
        }
        rows[s] = new int[n];
        forms[s] = form;
        return n;
    }

    int lose(int s) {
        if (badSheet(s)) {
            return BAD;
        }
        if (rows[s] == null) {
            return find(1);
        }
        int n = rows[s].length;
        rows[s] = null;
        return n;
    }

    private int itemRefusal(int s, int form, int i) {
        if (badSheet(s) || form < 0 || form > 2) {
            return BAD;
        }
        if (rows[s] == null) {
            return find(1);
        }
        if (forms[s] != form) {
            return find(3);
        }
        return i < 0 || i >= rows[s].length ? find(2) : 0;
    }

    int put(int s, int form, int i, int v) {
        int no = itemRefusal(s, form, i);
        if (no != 0) {
            return no;
        }
        int spare = form == 0 ? 24 : form == 1 ? 16 : 0;
        rows[s][i] = v << spare >> spare;
        return 1;
    }

    int get(int s, int form, int i) {
        return itemRefusal(s, form, i) != 0 ? LEAST : rows[s][i];
    }

    int copy(int s, int i, int t, int j, int n) {
        if (badSheet(s) || badSheet(t)) {
            return BAD;
        }
        if (rows[s] == null || rows[t] == null) {
            return find(1);
        }
        if (forms[s] != forms[t]) {
            return find(4);
        }
        if (i < 0 || j < 0 || n < 0 || (long) i + n > rows[s].length || (long) j + n > rows[t].length) {
            return find(2);
        }
        int[] were = rows[s].clone();
        for (int k = 0; k < n; k++) {
            rows[t][j + k] = were[i + k];
        }
        return 1;
    }

    int write(int s) {
        if (badSheet(s)) {
            return BAD;
        }
        if (rows[s] == null) {
            return find(1);
        }
        int n = 0;
        while (n < rows[s].length && n < parse().nodes.size()) {
            rows[s][n] = parse().nodes.get(n).use ? boundOf(parse().nodes, n) : n;
            n++;
        }
        return n;
    }

    int count(int what) {
        Set<Set<Integer>> families = new HashSet<>();
        for (int d : declarations()) {
            families.add(familyOf(parse().nodes, d));
        }
        switch (what) {
            case 0: return text.length();
            case 1: return parse().nodes.size();
            case 2: return parse().scopes.size();
            case 3: return declarations().size();
            case 4: return usesOf(NONE).size();
            case 5: return families.size();
            case 6: return idleOnes().size();
            case 7: return known.size();
            case 8: return finding;
            default: return BAD;
        }
    }

    private List<Long> told() {
        List<Long> all = new ArrayList<>();
        for (int what = 0; what < 8; what++) {
            all.add((long) count(what));
        }
        all.add((long) fault());
        for (int i = 0; i < 40; i++) {
            all.add((long) shown(i));
        }
        for (int i = 0; i < parse().nodes.size(); i++) {
            for (int what = 0; what < 5; what++) {
                all.add((long) node(i, what));
            }
            all.addAll(List.of((long) bound(i), family(i), uses(i), (long) hides(i)));
            if (!parse().nodes.get(i).use) {
                all.add((long) easy(i));
                for (int c : new int[] {'a', 'c', 'x'}) {
                    all.addAll(List.of((long) plan(i, c, 0), (long) plan(i, c, 1)));
                    all.addAll(List.of((long) caught(i, c, 0), (long) caught(i, c, 1)));
                }
            }
        }
        for (int s = 0; s < parse().scopes.size(); s++) {
            for (int what = 0; what < 4; what++) {
                all.add((long) scope(s, what));
            }
            all.addAll(List.of((long) own(s, 'a'), (long) own(s, 'b')));
        }
        all.add(idle());
        return all;
    }

    long digest() {
        long h = 17;
        for (long v : told()) {
            h = 31 * h + v;
        }
        return h;
    }
}
