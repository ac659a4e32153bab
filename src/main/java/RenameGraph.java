import java.util.Arrays;

/**
 * A rename tool by name graphs: what each use is bound to is held against
 * what it would be bound to, and of the plans that keep it the one with the
 * fewest edits is taken. The promises are those of DOC.md.
 */
public final class RenameGraph {
    public static final int NONE = -1, BAD = -2, NOT = -3, FULL = -4;

    private static final int NULL = 1, INDEX = 2, CAST = 3, STORE = 4, SIZE = 5;
    private static final int MAX_BYTES = 100, MAX_NODES = 60, MAX_SCOPES = 10, MAX_OUTS = 3;
    private static final int MAX_KNOWN = 20, LETTERS = 26;
    private static final int SHEETS = 4, FORMS = 3, MAX_ITEMS = 60;
    private static final int PLAIN = 0, PUSHED = 2, PLANS = 3;
    private static final int LEAST_INT = 1 << 31;
    private static final long LEAST_LONG = 1L << 63;
    private static final int DIGEST_BYTES = 40;
    private static final int[] DIGEST_NAMES = {'a', 'c', 'x'};

    private final Text text;
    private final Tree tree;
    private final Names now;
    private final Renamer renamer;
    private final Sheet[] sheets;
    private int finding;

    public RenameGraph() {
        text = new Text();
        tree = new Tree();
        now = new Names(tree);
        renamer = new Renamer(tree, now);
        sheets = new Sheet[SHEETS];
        for (int s = 0; s < SHEETS; s++) {
            sheets[s] = new Sheet();
        }
        finding = 0;
        reread();
    }

    // ---- the text

    public int type(int b) {
        if (!isByte(b)) {
            return BAD;
        }
        if (text.size >= MAX_BYTES) {
            return FULL;
        }
        text.append(b);
        textWasTold();
        return text.size;
    }

    public int wipe() {
        int had = text.size;
        text.size = 0;
        textWasTold();
        return had;
    }

    public int undo() {
        if (text.size <= 0) {
            return NOT;
        }
        text.size--;
        textWasTold();
        return text.size;
    }

    public int fault() {
        return tree.faultPlace;
    }

    public int read(int s) {
        if (!isSheet(s)) {
            return BAD;
        }
        Sheet from = sheets[s];
        if (from.lost) {
            return found(NULL);
        }
        int told = Math.min(from.bytesAtFront(), MAX_BYTES - text.size);
        for (int k = 0; k < told; k++) {
            text.append(from.items[k]);
        }
        // where no byte came, what is known of renamings stays known
        if (told > 0) {
            textWasTold();
        }
        return told;
    }

    public int shown(int i) {
        if (i < 0 || i >= MAX_BYTES) {
            return BAD;
        }
        return i < text.size ? text.bytes[i] : NONE;
    }

    // ---- nodes, scopes

    public int node(int i, int what) {
        if (!isNode(i)) {
            return BAD;
        }
        switch (what) {
            case 0: return tree.isUse[i] ? 1 : 0;
            case 1: return 'a' + tree.name[i];
            case 2: return tree.scopeOf[i];
            case 3: return tree.outs[i];
            case 4: return tree.place[i];
            default: return BAD;
        }
    }

    public int scope(int scope, int what) {
        if (!isScope(scope)) {
            return BAD;
        }
        switch (what) {
            case 0: return tree.parent[scope];
            case 1: return tree.base[scope];
            case 2: return tree.nodesIn(scope, false);
            case 3: return tree.nodesIn(scope, true);
            default: return BAD;
        }
    }

    public int bound(int i) {
        if (!isNode(i)) {
            return BAD;
        }
        return tree.isUse[i] ? now.target[i] : NOT;
    }

    public int own(int scope, int name) {
        if (!isScope(scope) || !isLetter(name)) {
            return BAD;
        }
        return now.table[scope * LETTERS + name - 'a'];
    }

    public long family(int i) {
        int refusal = refusalOfDeclaration(i);
        return refusal != 0 ? asLong(refusal) : now.kin[i];
    }

    public long uses(int i) {
        int refusal = refusalOfDeclaration(i);
        return refusal != 0 ? asLong(refusal) : now.usesOf(i);
    }

    public int hides(int i) {
        int refusal = refusalOfDeclaration(i);
        if (refusal != 0) {
            return refusal;
        }
        return now.lookUp(tree.scopeOf[i], 1, tree.name[i]);
    }

    public long idle() {
        return now.idleOnes();
    }

    // ---- names changed

    public int plan(int i, int name, int what) {
        int refusal = refusalOfChange(i, name, what, 2);
        if (refusal != 0) {
            return refusal;
        }
        int best = renamer.bestPlan(i, name - 'a');
        return what == 0 ? best : renamer.leastEdits;
    }

    public int edits(int i, int name, int plan) {
        int refusal = refusalOfChange(i, name, plan, PLANS);
        return refusal != 0 ? refusal : renamer.attempt(i, name - 'a', plan);
    }

    public int caught(int i, int name, int what) {
        int refusal = refusalOfChange(i, name, what, 2);
        if (refusal != 0) {
            return refusal;
        }
        int use = renamer.firstCaught(i, name - 'a');
        return what == 0 || use == NONE ? use : renamer.then.target[use];
    }

    public int easy(int i) {
        int refusal = refusalOfDeclaration(i);
        return refusal != 0 ? refusal : renamer.easyLetters(i);
    }

    public int rename(int i, int name) {
        int refusal = refusalOfChange(i, name, 0, 1);
        if (refusal != 0) {
            return refusal;
        }
        int letter = name - 'a';
        int best = renamer.bestPlan(i, letter);
        if (best == NONE) {
            return NOT;
        }
        int changed = renamer.attempt(i, letter, best);
        text.respell(renamer.then);
        reread();
        return changed;
    }

    public int back() {
        if (text.knownCount <= 0) {
            return NOT;
        }
        text.takeBack();
        reread();
        return text.knownCount;
    }

    // ---- sheets

    public int sheet(int s, int form, int n) {
        if (!isSheet(s) || !isForm(form) || n > MAX_ITEMS) {
            return BAD;
        }
        if (n < 0) {
            return found(SIZE);
        }
        sheets[s].renew(form, n);
        return n;
    }

    public int lose(int s) {
        if (!isSheet(s)) {
            return BAD;
        }
        Sheet gone = sheets[s];
        if (gone.lost) {
            return found(NULL);
        }
        gone.lost = true;
        return gone.size;
    }

    public int put(int s, int form, int i, int v) {
        int refusal = refusalOfItem(s, form, i);
        if (refusal != 0) {
            return refusal;
        }
        sheets[s].store(i, v);
        return 1;
    }

    public int get(int s, int form, int i) {
        int refusal = refusalOfItem(s, form, i);
        return refusal != 0 ? LEAST_INT : sheets[s].items[i];
    }

    public int copy(int s, int i, int t, int j, int n) {
        if (!isSheet(s) || !isSheet(t)) {
            return BAD;
        }
        Sheet from = sheets[s];
        Sheet to = sheets[t];
        if (from.lost || to.lost) {
            return found(NULL);
        }
        if (from.form != to.form) {
            return found(STORE);
        }
        if (!from.hasRun(i, n) || !to.hasRun(j, n)) {
            return found(INDEX);
        }
        System.arraycopy(from.items, i, to.items, j, n);
        return 1;
    }

    public int write(int s) {
        if (!isSheet(s)) {
            return BAD;
        }
        Sheet to = sheets[s];
        if (to.lost) {
            return found(NULL);
        }
        int written = Math.min(to.size, tree.nodes);
        for (int k = 0; k < written; k++) {
            to.store(k, now.target[k]);
        }
        return written;
    }

    public int count(int what) {
        switch (what) {
            case 0: return text.size;
            case 1: return tree.nodes;
            case 2: return tree.scopes;
            case 3: return tree.declarations();
            case 4: return now.unboundUses();
            case 5: return now.families();
            case 6: return Long.bitCount(now.idleOnes());
            case 7: return text.knownCount;
            case 8: return finding;
            default: return BAD;
        }
    }

    public long digest() {
        long h = 17;
        for (int what = 0; what <= 7; what++) {
            h = 31 * h + count(what);
        }
        h = 31 * h + fault();
        for (int i = 0; i < DIGEST_BYTES; i++) {
            h = 31 * h + shown(i);
        }
        for (int i = 0; i < tree.nodes; i++) {
            h = digestOfNode(h, i);
        }
        for (int s = 0; s < tree.scopes; s++) {
            h = digestOfScope(h, s);
        }
        return 31 * h + idle();
    }

    private long digestOfNode(long start, int i) {
        long h = start;
        for (int what = 0; what <= 4; what++) {
            h = 31 * h + node(i, what);
        }
        h = 31 * h + bound(i);
        h = 31 * h + family(i);
        h = 31 * h + uses(i);
        h = 31 * h + hides(i);
        if (tree.isUse[i]) {
            return h;
        }
        h = 31 * h + easy(i);
        for (int k = 0; k < DIGEST_NAMES.length; k++) {
            int name = DIGEST_NAMES[k];
            h = 31 * h + plan(i, name, 0);
            h = 31 * h + plan(i, name, 1);
            h = 31 * h + caught(i, name, 0);
            h = 31 * h + caught(i, name, 1);
        }
        return h;
    }

    private long digestOfScope(long start, int s) {
        long h = start;
        for (int what = 0; what <= 3; what++) {
            h = 31 * h + scope(s, what);
        }
        h = 31 * h + own(s, 'a');
        return 31 * h + own(s, 'b');
    }

    // ---- what the calls share

    private void textWasTold() {
        text.knownCount = 0;
        reread();
    }

    private void reread() {
        tree.readAll(text);
        now.takeWritten();
    }

    private int found(int number) {
        finding = number;
        return -10 - number;
    }

    private static long asLong(int refusal) {
        return LEAST_LONG - refusal;
    }

    private boolean isNode(int i) {
        return i >= 0 && i < tree.nodes;
    }

    private boolean isScope(int s) {
        return s >= 0 && s < tree.scopes;
    }

    private static boolean isByte(int b) {
        return b >= 0 && b <= 255;
    }

    private static boolean isLetter(int b) {
        return b >= 'a' && b <= 'z';
    }

    private static boolean isSheet(int s) {
        return s >= 0 && s < SHEETS;
    }

    private static boolean isForm(int form) {
        return form >= 0 && form < FORMS;
    }

    /** 0 if node i is a declaration. */
    private int refusalOfDeclaration(int i) {
        if (!isNode(i)) {
            return BAD;
        }
        return tree.isUse[i] ? NOT : 0;
    }

    /** 0 if node i is a declaration, the name a letter, and what below a bound. */
    private int refusalOfChange(int i, int name, int what, int bound) {
        if (!isLetter(name) || what < 0 || what >= bound) {
            return BAD;
        }
        return refusalOfDeclaration(i);
    }

    /** 0 if item i of sheet s can be treated as of that form. */
    private int refusalOfItem(int s, int form, int i) {
        if (!isSheet(s) || !isForm(form)) {
            return BAD;
        }
        Sheet row = sheets[s];
        if (row.lost) {
            return found(NULL);
        }
        if (row.form != form) {
            return found(CAST);
        }
        if (i < 0 || i >= row.size) {
            return found(INDEX);
        }
        return 0;
    }

    /** The bytes, and the texts that the last renamings took the place of. */
    private static final class Text {
        private final int[] bytes = new int[MAX_BYTES];
        private int size = 0;
        private final int[][] known = new int[MAX_KNOWN][MAX_BYTES];
        private final int[] knownSizes = new int[MAX_KNOWN];
        private int knownCount = 0;
        private int knownTop = 0;

        void append(int b) {
            if (size < MAX_BYTES) {
                bytes[size] = b;
                size++;
            }
        }

        /** The text gets the names and outs of its nodes anew; as it was stays known. */
        void respell(Names names) {
            int row = keep();
            int[] old = known[row];
            size = 0;
            int node = 0;
            for (int p = 0; p < knownSizes[row]; p++) {
                int b = old[p];
                if (isLetter(b) && node < MAX_NODES) {
                    spell(names.outs[node], names.name[node]);
                    node++;
                } else if (b != '^') {
                    append(b);
                }
            }
        }

        private void spell(int outs, int letter) {
            for (int k = 0; k < outs; k++) {
                append('^');
            }
            append('a' + letter);
        }

        /** The rows go round, so that the oldest gives way to the twenty-first. */
        private int keep() {
            int row = knownTop;
            System.arraycopy(bytes, 0, known[row], 0, size);
            knownSizes[row] = size;
            knownTop = row + 1 < MAX_KNOWN ? row + 1 : 0;
            knownCount = Math.min(knownCount + 1, MAX_KNOWN);
            return row;
        }

        void takeBack() {
            if (knownCount <= 0) {
                return;
            }
            knownTop = knownTop > 0 ? knownTop - 1 : MAX_KNOWN - 1;
            knownCount--;
            size = knownSizes[knownTop];
            System.arraycopy(known[knownTop], 0, bytes, 0, size);
        }
    }

    /** The scopes and nodes of a text as they are written, read byte by byte. */
    private static final class Tree {
        private static final int ITEM = 0, OPENED = 1, FIGURE = 2, NAME = 3, OUTS = 4;

        private final boolean[] isUse = new boolean[MAX_NODES];
        private final int[] name = new int[MAX_NODES];
        private final int[] outs = new int[MAX_NODES];
        private final int[] scopeOf = new int[MAX_NODES];
        private final int[] place = new int[MAX_NODES];
        private int nodes;

        private final int[] parent = new int[MAX_SCOPES];
        private final int[] base = new int[MAX_SCOPES];
        private final int[] declared = new int[MAX_SCOPES];
        private final boolean[] ended = new boolean[MAX_SCOPES];
        private int scopes;

        private int size;
        private int faultPlace;
        private int state;
        private int current;
        private int outsSoFar;

        void readAll(Text text) {
            begin();
            size = text.size;
            for (int p = 0; p < size && faultPlace == NONE; p++) {
                if (!goesOn(text.bytes[p], p)) {
                    faultPlace = p;
                }
            }
            boolean complete = current == 0 && state == ITEM;
            if (faultPlace == NONE && !complete) {
                faultPlace = size;
            }
            if (faultPlace != NONE) {
                nodes = 0;
                openText();
            }
        }

        private void begin() {
            nodes = 0;
            faultPlace = NONE;
            state = ITEM;
            current = 0;
            outsSoFar = 0;
            openText();
        }

        private void openText() {
            scopes = 0;
            addScope(NONE);
        }

        private void addScope(int around) {
            if (scopes < MAX_SCOPES) {
                parent[scopes] = around;
                base[scopes] = NONE;
                declared[scopes] = 0;
                ended[scopes] = false;
                scopes++;
            }
        }

        /** Whether the text can go on with byte b, at place p. */
        private boolean goesOn(int b, int p) {
            switch (state) {
                case OPENED: return beginsExtension(b) || beginsItem(b, p);
                case FIGURE: return extend(b - '0');
                case NAME: return isLetter(b) && declare(b - 'a', p);
                case OUTS: return goesFartherOut(b) || endsUse(b, p);
                default: return beginsItem(b, p);
            }
        }

        private boolean beginsExtension(int b) {
            if (b != '<') {
                return false;
            }
            state = FIGURE;
            return true;
        }

        private boolean beginsItem(int b, int p) {
            switch (b) {
                case '+':
                    state = NAME;
                    return true;
                case '^':
                    outsSoFar = 1;
                    state = OUTS;
                    return true;
                case '{': return open();
                case '}': return close();
                default:
                    outsSoFar = 0;
                    return endsUse(b, p);
            }
        }

        private boolean open() {
            if (scopes >= MAX_SCOPES) {
                return false;
            }
            int opened = scopes;
            addScope(current);
            current = opened;
            state = OPENED;
            return true;
        }

        private boolean close() {
            if (current <= 0) {
                return false;
            }
            ended[current] = true;
            current = parent[current];
            state = ITEM;
            return true;
        }

        /** A scope that is ended always bears a lesser number than the one just opened. */
        private boolean extend(int figure) {
            if (figure < 0 || figure >= scopes || !ended[figure]) {
                return false;
            }
            base[current] = figure;
            state = ITEM;
            return true;
        }

        private boolean goesFartherOut(int b) {
            if (b != '^' || outsSoFar >= MAX_OUTS) {
                return false;
            }
            outsSoFar++;
            return true;
        }

        private boolean endsUse(int b, int p) {
            return isLetter(b) && addNode(true, b - 'a', outsSoFar, p);
        }

        private boolean declare(int letter, int p) {
            int bit = 1 << letter;
            if ((declared[current] & bit) != 0) {
                return false;
            }
            declared[current] |= bit;
            return addNode(false, letter, 0, p);
        }

        private boolean addNode(boolean use, int letter, int out, int p) {
            if (nodes >= MAX_NODES) {
                return false;
            }
            isUse[nodes] = use;
            name[nodes] = letter;
            outs[nodes] = out;
            scopeOf[nodes] = current;
            place[nodes] = p;
            nodes++;
            state = ITEM;
            return true;
        }

        int declarations() {
            int found = 0;
            for (int n = 0; n < nodes; n++) {
                if (!isUse[n]) {
                    found++;
                }
            }
            return found;
        }

        int nodesIn(int scope, boolean use) {
            int found = 0;
            for (int n = 0; n < nodes; n++) {
                if (scopeOf[n] == scope && isUse[n] == use) {
                    found++;
                }
            }
            return found;
        }
    }

    /** Names and outs that the nodes of a tree have, or would have, and what follows from them. */
    private static final class Names {
        private final Tree tree;
        private final int[] name = new int[MAX_NODES];
        private final int[] outs = new int[MAX_NODES];
        /** What each node is bound to; a declaration is its own target. */
        private final int[] target = new int[MAX_NODES];
        /** The family of each declaration, as bits. */
        private final long[] kin = new long[MAX_NODES];
        /** What is own to each scope, of each letter. */
        private final int[] table = new int[MAX_SCOPES * LETTERS];

        Names(Tree tree) {
            this.tree = tree;
        }

        void takeWritten() {
            System.arraycopy(tree.name, 0, name, 0, MAX_NODES);
            System.arraycopy(tree.outs, 0, outs, 0, MAX_NODES);
            fillTable();
            bindAll();
            joinFamilies();
        }

        void takeSpelling(Names other) {
            System.arraycopy(other.name, 0, name, 0, MAX_NODES);
            System.arraycopy(other.outs, 0, outs, 0, MAX_NODES);
        }

        /** Answers whether no scope has two declarations of a name; of two the first one counts. */
        boolean fillTable() {
            Arrays.fill(table, NONE);
            boolean single = true;
            for (int n = tree.nodes - 1; n >= 0; n--) {
                if (!tree.isUse[n]) {
                    int cell = tree.scopeOf[n] * LETTERS + name[n];
                    single = single && table[cell] == NONE;
                    table[cell] = n;
                }
            }
            inherit();
            return single;
        }

        /** A scope comes behind the one that it extends, whose row is whole by then. */
        private void inherit() {
            for (int s = 0; s < tree.scopes; s++) {
                int base = tree.base[s];
                for (int letter = 0; letter < LETTERS && base >= 0; letter++) {
                    if (table[s * LETTERS + letter] == NONE) {
                        table[s * LETTERS + letter] = table[base * LETTERS + letter];
                    }
                }
            }
        }

        void bindAll() {
            for (int n = 0; n < tree.nodes; n++) {
                target[n] = tree.isUse[n] ? lookUp(tree.scopeOf[n], outs[n], name[n]) : n;
            }
        }

        /** What a use of a letter in a scope, with so many outs, is bound to. */
        int lookUp(int scope, int out, int letter) {
            int s = scope;
            for (int k = 0; k < out && s >= 0; k++) {
                s = tree.parent[s];
            }
            for (int k = 0; k < MAX_SCOPES && s >= 0; k++) {
                int declaration = table[s * LETTERS + letter];
                if (declaration != NONE) {
                    return declaration;
                }
                s = tree.parent[s];
            }
            return NONE;
        }

        void joinFamilies() {
            for (int n = 0; n < tree.nodes; n++) {
                kin[n] = 1L << n;
            }
            for (int n = 0; n < tree.nodes; n++) {
                int base = tree.base[tree.scopeOf[n]];
                int other = base >= 0 ? table[base * LETTERS + name[n]] : NONE;
                if (!tree.isUse[n] && other != NONE) {
                    join(kin[n] | kin[other]);
                }
            }
        }

        private void join(long all) {
            for (int n = 0; n < tree.nodes; n++) {
                if ((all & 1L << n) != 0) {
                    kin[n] = all;
                }
            }
        }

        long usesOf(int declaration) {
            long bits = 0;
            for (int n = 0; n < tree.nodes; n++) {
                if (tree.isUse[n] && target[n] == declaration) {
                    bits |= 1L << n;
                }
            }
            return bits;
        }

        long idleOnes() {
            long declarations = 0;
            long bound = 0;
            for (int n = 0; n < tree.nodes; n++) {
                if (!tree.isUse[n]) {
                    declarations |= 1L << n;
                } else if (target[n] != NONE) {
                    bound |= 1L << target[n];
                }
            }
            return declarations & ~bound;
        }

        int unboundUses() {
            return Long.bitCount(usesOf(NONE));
        }

        /** Each family is counted at its first declaration, which has none of it ahead. */
        int families() {
            int found = 0;
            for (int n = 0; n < tree.nodes; n++) {
                long ahead = (1L << n) - 1;
                if (!tree.isUse[n] && (kin[n] & ahead) == 0) {
                    found++;
                }
            }
            return found;
        }
    }

    /** Tries the plans by which a declaration gets another name. */
    private static final class Renamer {
        private final Tree tree;
        private final Names now;
        /** The names as the plan tried last would leave them. */
        private final Names then;
        private int leastEdits;

        Renamer(Tree tree, Names now) {
            this.tree = tree;
            this.now = now;
            this.then = new Names(tree);
            this.leastEdits = NONE;
        }

        /** The best plan, or NONE; leastEdits tells its edits. */
        int bestPlan(int declaration, int letter) {
            int best = NONE;
            leastEdits = NONE;
            for (int p = 0; p < PLANS; p++) {
                int changed = attempt(declaration, letter, p);
                if (changed != NONE && (best == NONE || changed < leastEdits)) {
                    best = p;
                    leastEdits = changed;
                }
            }
            return best;
        }

        /** The edits of a plan, or NONE if it is not there. */
        int attempt(int declaration, int letter, int planNumber) {
            then.takeSpelling(now);
            if (planNumber == PUSHED && !pushAway(letter)) {
                return NONE;
            }
            giveName(declaration, letter);
            if (!then.fillTable()) {
                return NONE;
            }
            then.bindAll();
            if (planNumber != PLAIN) {
                repairOuts();
            }
            if (!isWell() || tree.size + outsAdded() > MAX_BYTES) {
                return NONE;
            }
            return editsMade();
        }

        int easyLetters(int declaration) {
            int bits = 0;
            for (int letter = 0; letter < LETTERS; letter++) {
                if (attempt(declaration, letter, PLAIN) != NONE) {
                    bits |= 1 << letter;
                }
            }
            return bits;
        }

        /** The first use that is bound elsewhere if it is renamed just so; then tells where. */
        int firstCaught(int declaration, int letter) {
            then.takeSpelling(now);
            giveName(declaration, letter);
            then.fillTable();
            then.bindAll();
            return firstRebound();
        }

        private int firstRebound() {
            for (int n = 0; n < tree.nodes; n++) {
                if (then.target[n] != now.target[n]) {
                    return n;
                }
            }
            return NONE;
        }

        private void giveName(int declaration, int letter) {
            long family = now.kin[declaration];
            for (int n = 0; n < tree.nodes; n++) {
                int holder = now.target[n];
                if (holder != NONE && (family & 1L << holder) != 0) {
                    then.name[n] = letter;
                }
            }
        }

        private boolean pushAway(int letter) {
            int spare = spareLetter();
            if (spare == NONE) {
                return false;
            }
            for (int n = 0; n < tree.nodes; n++) {
                if (now.target[n] != NONE && now.name[n] == letter) {
                    then.name[n] = spare;
                }
            }
            return true;
        }

        private int spareLetter() {
            int taken = 0;
            for (int n = 0; n < tree.nodes; n++) {
                taken |= 1 << now.name[n];
            }
            for (int letter = 0; letter < LETTERS; letter++) {
                if ((taken & 1 << letter) == 0) {
                    return letter;
                }
            }
            return NONE;
        }

        private void repairOuts() {
            for (int n = 0; n < tree.nodes; n++) {
                if (then.target[n] != now.target[n]) {
                    int out = leastOuts(n);
                    if (out != NONE) {
                        then.outs[n] = out;
                        then.target[n] = now.target[n];
                    }
                }
            }
        }

        /** The least outs with which a use is bound as before, or NONE. */
        private int leastOuts(int use) {
            for (int out = 0; out <= MAX_OUTS; out++) {
                if (then.lookUp(tree.scopeOf[use], out, then.name[use]) == now.target[use]) {
                    return out;
                }
            }
            return NONE;
        }

        /** Asked only where no scope has two declarations of a name. */
        private boolean isWell() {
            if (firstRebound() != NONE) {
                return false;
            }
            then.joinFamilies();
            return sameFamilies();
        }

        private boolean sameFamilies() {
            for (int n = 0; n < tree.nodes; n++) {
                if (then.kin[n] != now.kin[n]) {
                    return false;
                }
            }
            return true;
        }

        private int outsAdded() {
            int added = 0;
            for (int n = 0; n < tree.nodes; n++) {
                added += then.outs[n] - now.outs[n];
            }
            return added;
        }

        private int editsMade() {
            int made = 0;
            for (int n = 0; n < tree.nodes; n++) {
                made += then.name[n] != now.name[n] ? 1 : 0;
                made += Math.abs(then.outs[n] - now.outs[n]);
            }
            return made;
        }
    }

    /** A row of items of a form, or a lost one. */
    private static final class Sheet {
        private final int[] items = new int[MAX_ITEMS];
        private int form = 0;
        private int size = 0;
        private boolean lost = true;

        void renew(int newForm, int newSize) {
            Arrays.fill(items, 0);
            form = newForm;
            size = newSize;
            lost = false;
        }

        void store(int i, int v) {
            switch (form) {
                case 0:
                    items[i] = (byte) v;
                    break;
                case 1:
                    items[i] = (short) v;
                    break;
                default:
                    items[i] = v;
                    break;
            }
        }

        /** How many items, from the first on, are bytes: one that is none lets no later one come. */
        int bytesAtFront() {
            int n = 0;
            while (n < size && isByte(items[n])) {
                n++;
            }
            return n;
        }

        boolean hasRun(int from, int n) {
            return from >= 0 && n >= 0 && from <= size - n;
        }
    }
}
