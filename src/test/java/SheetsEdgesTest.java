import java.util.Arrays;
import java.util.function.Consumer;

/** The edges that the document names for sheets and findings (Terms, promises 22 to 27), each sentence by itself. */
public final class SheetsEdgesTest {
    private static final int BAD = RenameGraph.BAD, LEAST = Integer.MIN_VALUE, MOST = Integer.MAX_VALUE;
    private static final int NULL = -11, INDEX = -12, CAST = -13, STORE = -14, SIZE = -15;
    private static final int[] NO_SHEETS = {LEAST, -2, -1, 4, 5, 256, MOST};
    private static final int[] NO_FORMS = {LEAST, -2, -1, 3, 4, 256, MOST};
    private static final Check check = new Check("SheetsEdgesTest");

    public static void main(String[] args) {
        sheetsOfEachSize();
        newRows();
        sheetRefused();
        sheetBadAheadOfSize();
        losesEmptyAndFull();
        loseRefused();
        putsLowestBits();
        putsRoundAndRound();
        putsFirstAndLast();
        putRefused();
        putFirstThatFits();
        getsFirstAndLast();
        getRefused();
        getFirstThatFits();
        copiesNoneAndAll();
        copiesAsTheyWere();
        copiesOfNoneToo();
        copyRefused();
        copyIndex();
        copyAtTheEndOfSixty();
        copyFirstThatFits();
        writesAsManyAsThereAre();
        writesItselfOrNone();
        writeRefused();
        latestFinding();
        check.end();
    }

    /** 0: bytes, three; 1: shorts, four; 2: ints, five; 3 is lost; with a text and a renaming. */
    private static void rows(RenameGraph x) {
        Check.tell(x, "b+a{a}");
        x.rename(1, 'c');
        for (int s = 0; s <= 2; s++) {
            x.sheet(s, s, 3 + s);
            for (int k = 0; k < 3 + s; k++) {
                x.put(s, s, k, 10 * s + k + 1);
            }
        }
    }

    private static RenameGraph withRows() {
        RenameGraph x = new RenameGraph();
        rows(x);
        return x;
    }

    private static void items(RenameGraph x, int s, int form, int... due) {
        for (int k = 0; k < due.length; k++) {
            check.due("get(" + s + ", " + form + ", " + k + ")", x.get(s, form, k), due[k]);
        }
        check.due("lose(" + s + ")", x.lose(s), due.length);
    }

    // ---- promise 22

    private static void sheetsOfEachSize() {
        check.sentence("A SHEET is a new row of a FORM with n items: n. (0 to 60 items)");
        for (int s = 0; s <= 3; s++) {
            for (int form = 0; form <= 2; form++) {
                for (int n = 0; n <= 60; n++) {
                    RenameGraph x = new RenameGraph();
                    check.due("sheet(" + s + ", " + form + ", " + n + ")", x.sheet(s, form, n), n);
                    check.due("put() of the last", x.put(s, form, n - 1, 7), n == 0 ? INDEX : 1);
                    check.due("put() behind the last", x.put(s, form, n, 7), INDEX);
                    check.due("lose()", x.lose(s), n);
                }
            }
        }
    }

    private static void newRows() {
        check.sentence("SHEETS are a row of items (0 at first)");
        for (int form = 0; form <= 2; form++) {
            for (int before = 0; before <= 2; before++) {
                RenameGraph x = new RenameGraph();
                x.sheet(1, before, 60);
                for (int k = 0; k < 60; k++) {
                    x.put(1, before, k, 99);
                }
                x.sheet(1, form, 2);
                x.sheet(1, form, 60);
                items(x, 1, form, new int[60]);
                x.sheet(1, form, 60);
                items(x, 1, form, new int[60]);
            }
        }
        check.sentence("a new row: no other SHEET is changed");
        for (int s = 0; s <= 3; s++) {
            int row = s;
            check.due("state behind a new row that is lost", State.unlike(x -> {
                rows(x);
                x.sheet(row, 0, 1);
                x.lose(row);
            }, x -> {
                rows(x);
                x.sheet(row, 2, 60);
                x.put(row, 2, 59, 1);
                x.lose(row);
            }), "");
        }
    }

    private static void sheetRefused() {
        check.sentence("sheet: BAD: SHEET, FORM, above 60; SIZE.");
        Consumer<RenameGraph> past = SheetsEdgesTest::rows;
        for (int s : NO_SHEETS) {
            check.refuses("sheet(" + s + ", 0, 1)", past, x -> x.sheet(s, 0, 1), BAD);
        }
        for (int form : NO_FORMS) {
            check.refuses("sheet(0, " + form + ", 1)", past, x -> x.sheet(0, form, 1), BAD);
            check.refuses("sheet(3, " + form + ", 1)", past, x -> x.sheet(3, form, 1), BAD);
        }
        for (int n : new int[] {61, 62, 100, 256, MOST}) {
            check.refuses("sheet(1, 1, " + n + ")", past, x -> x.sheet(1, 1, n), BAD);
            check.refuses("sheet(3, 1, " + n + ")", past, x -> x.sheet(3, 1, n), BAD);
        }
        check.sentence("5 SIZE: below 0");
        for (int n : new int[] {-1, -2, -60, LEAST}) {
            for (int s = 0; s <= 3; s++) {
                int row = s;
                check.finds("sheet(" + s + ", 1, " + n + ")", past, x -> x.sheet(row, 1, n), SIZE, 5);
            }
        }
        check.due("sheet(0, 0, 0) is none", withRows().sheet(0, 0, 0), 0);
    }

    private static void sheetBadAheadOfSize() {
        check.sentence("sheet: BAD ahead of SIZE");
        Consumer<RenameGraph> past = SheetsEdgesTest::rows;
        for (int n : new int[] {-1, LEAST}) {
            check.refuses("sheet(4, 0, " + n + ")", past, x -> x.sheet(4, 0, n), BAD);
            check.refuses("sheet(-1, 0, " + n + ")", past, x -> x.sheet(-1, 0, n), BAD);
            check.refuses("sheet(0, 3, " + n + ")", past, x -> x.sheet(0, 3, n), BAD);
            check.refuses("sheet(0, -1, " + n + ")", past, x -> x.sheet(0, -1, n), BAD);
        }
    }

    // ---- promise 23

    private static void losesEmptyAndFull() {
        check.sentence("It is LOST: how many items it had.");
        for (int s = 0; s <= 3; s++) {
            for (int n : new int[] {0, 1, 59, 60}) {
                RenameGraph x = new RenameGraph();
                x.sheet(s, 2, n);
                check.due("lose(" + s + ") of " + n, x.lose(s), n);
                check.due("lose(" + s + ") again", x.lose(s), NULL);
            }
            int row = s;
            check.due("state behind lose()", State.unlike(x -> { }, x -> {
                x.sheet(row, 1, 9);
                x.lose(row);
            }), "");
        }
    }

    private static void loseRefused() {
        check.sentence("lose: BAD; NULL.");
        for (int s : NO_SHEETS) {
            check.refuses("lose(" + s + ")", SheetsEdgesTest::rows, x -> x.lose(s), BAD);
        }
        check.finds("lose(3)", SheetsEdgesTest::rows, x -> x.lose(3), NULL, 1);
        for (int s = 0; s <= 3; s++) {
            int row = s;
            check.finds("lose(" + s + ") of a new object", x -> { }, x -> x.lose(row), NULL, 1);
        }
    }

    // ---- promise 24

    private static void putsLowestBits() {
        check.sentence("becomes v (the lowest bits that it has, with its sign): 1.");
        int[][] due = {
            {127, 127, 127, 127}, {128, -128, 128, 128}, {129, -127, 129, 129}, {255, -1, 255, 255}, {256, 0, 256, 256},
            {257, 1, 257, 257}, {-1, -1, -1, -1}, {-128, -128, -128, -128}, {-129, 127, -129, -129}, {-256, 0, -256, -256},
            {32767, -1, 32767, 32767}, {32768, 0, -32768, 32768}, {65535, -1, -1, 65535}, {65536, 0, 0, 65536},
            {-32768, 0, -32768, -32768}, {-32769, -1, 32767, -32769}, {65536 + 128, -128, 128, 65664},
            {MOST, -1, -1, MOST}, {LEAST, 0, 0, LEAST}, {LEAST + 127, 127, 127, LEAST + 127}, {0, 0, 0, 0},
        };
        for (int form = 0; form <= 2; form++) {
            RenameGraph x = new RenameGraph();
            x.sheet(2, form, 3);
            for (int[] d : due) {
                check.due("put(2, " + form + ", 1, " + d[0] + ")", x.put(2, form, 1, d[0]), 1);
                check.due("get(2, " + form + ", 1)", x.get(2, form, 1), d[form + 1]);
                check.due("the item ahead", x.get(2, form, 0), 0);
                check.due("the item behind", x.get(2, form, 2), 0);
            }
        }
    }

    /** Every number of some rounds: a byte goes round at 256, a short at 65536. */
    private static void putsRoundAndRound() {
        check.sentence("the lowest bits that it has, with its sign (round and round)");
        int[] starts = {-520, -260, 0, 260, 32600, 65400, -33000, -65700};
        for (int form = 0; form <= 2; form++) {
            for (int start : starts) {
                RenameGraph x = new RenameGraph();
                x.sheet(2, form, 1);
                for (int v = start; v < start + 250; v++) {
                    x.put(2, form, 0, v);
                    int due = form == 0 ? (byte) v : form == 1 ? (short) v : v;
                    check.due("form " + form + " of " + v, x.get(2, form, 0), due);
                }
            }
        }
    }

    private static void putsFirstAndLast() {
        check.sentence("Item i, treated as of a FORM, becomes v");
        for (int form = 0; form <= 2; form++) {
            for (int n : new int[] {1, 2, 60}) {
                RenameGraph x = new RenameGraph();
                x.sheet(0, form, n);
                check.due("put() of the first", x.put(0, form, 0, 5), 1);
                check.due("put() of the last", x.put(0, form, n - 1, 6), 1);
                check.due("put() behind the last", x.put(0, form, n, 7), INDEX);
                check.due("put() ahead of the first", x.put(0, form, -1, 7), INDEX);
                int[] due = new int[n];
                due[0] = 5;
                due[n - 1] = 6;
                items(x, 0, form, due);
            }
        }
    }

    private static void putRefused() {
        check.sentence("put: BAD; NULL; CAST; INDEX.");
        Consumer<RenameGraph> past = SheetsEdgesTest::rows;
        for (int s : NO_SHEETS) {
            check.refuses("put(" + s + ", 0, 0, 9)", past, x -> x.put(s, 0, 0, 9), BAD);
        }
        for (int form : NO_FORMS) {
            check.refuses("put(0, " + form + ", 0, 9)", past, x -> x.put(0, form, 0, 9), BAD);
        }
        for (int form = 0; form <= 2; form++) {
            int f = form;
            check.finds("put(3, " + form + ", 0, 9)", past, x -> x.put(3, f, 0, 9), NULL, 1);
            for (int s = 0; s <= 2; s++) {
                int row = s;
                if (s != form) {
                    check.finds("put(" + s + ", " + form + ", 0, 9)", past, x -> x.put(row, f, 0, 9), CAST, 3);
                }
            }
            for (int i : new int[] {LEAST, -1, 3 + form, 4 + form, 59, 60, MOST}) {
                check.finds("put(" + f + ", " + f + ", " + i + ", 9)", past, x -> x.put(f, f, i, 9), INDEX, 2);
            }
        }
    }

    private static void putFirstThatFits() {
        check.sentence("put: of two refusals the first: BAD; NULL; CAST; INDEX");
        Consumer<RenameGraph> past = SheetsEdgesTest::rows;
        check.refuses("no form of a lost one", past, x -> x.put(3, 3, 0, 9), BAD);
        check.refuses("no form, no item", past, x -> x.put(0, -1, 3, 9), BAD);
        check.refuses("no sheet, no form", past, x -> x.put(4, 3, -1, 9), BAD);
        check.refuses("no sheet, no item", past, x -> x.put(-1, 0, -1, 9), BAD);
        for (int i : new int[] {LEAST, -1, 60, MOST}) {
            check.finds("a lost one, no item", past, x -> x.put(3, 0, i, 9), NULL, 1);
            check.finds("another form, no item", past, x -> x.put(0, 1, i, 9), CAST, 3);
        }
        check.finds("another form, an item of that many", past, x -> x.put(0, 2, 3, 9), CAST, 3);
        // what is lost has no form any more
        check.finds("one that was of that form", x -> {
            rows(x);
            x.lose(2);
        }, x -> x.put(2, 0, 9, 9), NULL, 1);
    }

    // ---- promise 25

    private static void getsFirstAndLast() {
        check.sentence("Item i of it.");
        for (int form = 0; form <= 2; form++) {
            RenameGraph x = new RenameGraph();
            x.sheet(3, form, 60);
            for (int k = 0; k < 60; k++) {
                x.put(3, form, k, k - 30);
            }
            for (int k = 0; k < 60; k++) {
                check.due("get(3, " + form + ", " + k + ")", x.get(3, form, k), k - 30);
            }
            check.due("count(8)", x.count(8), 0);
            check.due("get() behind the last", x.get(3, form, 60), LEAST);
            check.due("count(8)", x.count(8), 2);
        }
        // an item may be the least int: then nothing is found
        RenameGraph y = new RenameGraph();
        y.sheet(0, 2, 1);
        y.put(0, 2, 0, LEAST);
        check.due("get() of the least int", y.get(0, 2, 0), LEAST);
        check.due("count(8)", y.count(8), 0);
    }

    private static void getRefused() {
        check.sentence("BAD: the least int; so are NULL, CAST, INDEX (count() 8 tells).");
        Consumer<RenameGraph> past = SheetsEdgesTest::rows;
        for (int s : NO_SHEETS) {
            check.refuses("get(" + s + ", 0, 0)", past, x -> x.get(s, 0, 0), LEAST);
        }
        for (int form : NO_FORMS) {
            check.refuses("get(0, " + form + ", 0)", past, x -> x.get(0, form, 0), LEAST);
        }
        for (int form = 0; form <= 2; form++) {
            int f = form;
            check.finds("get(3, " + form + ", 0)", past, x -> x.get(3, f, 0), LEAST, 1);
            for (int s = 0; s <= 2; s++) {
                int row = s;
                if (s != form) {
                    check.finds("get(" + s + ", " + form + ", 0)", past, x -> x.get(row, f, 0), LEAST, 3);
                }
            }
            for (int i : new int[] {LEAST, -1, 3 + form, 4 + form, 59, 60, MOST}) {
                check.finds("get(" + f + ", " + f + ", " + i + ")", past, x -> x.get(f, f, i), LEAST, 2);
            }
        }
    }

    private static void getFirstThatFits() {
        check.sentence("get: of two refusals the first: BAD; NULL; CAST; INDEX");
        Consumer<RenameGraph> past = SheetsEdgesTest::rows;
        check.refuses("no form of a lost one", past, x -> x.get(3, 3, 0), LEAST);
        check.refuses("no form, no item", past, x -> x.get(0, -1, 3), LEAST);
        check.refuses("no sheet, no item", past, x -> x.get(4, 0, -1), LEAST);
        for (int i : new int[] {LEAST, -1, 60, MOST}) {
            check.finds("a lost one, no item", past, x -> x.get(3, 0, i), LEAST, 1);
            check.finds("another form, no item", past, x -> x.get(0, 1, i), LEAST, 3);
        }
    }

    // ---- promise 26

    private static RenameGraph twoRows(int form, int n, int m) {
        RenameGraph x = new RenameGraph();
        x.sheet(0, form, n);
        x.sheet(3, form, m);
        for (int k = 0; k < n; k++) {
            x.put(0, form, k, k + 1);
        }
        for (int k = 0; k < m; k++) {
            x.put(3, form, k, -k - 1);
        }
        return x;
    }

    private static void copiesNoneAndAll() {
        check.sentence("n items of SHEET s, from i on, come to SHEET t, from j on: 1.");
        for (int form = 0; form <= 2; form++) {
            for (int n : new int[] {1, 2, 60}) {
                RenameGraph x = twoRows(form, n, n);
                check.due("copy() of all " + n, x.copy(0, 0, 3, 0, n), 1);
                int[] due = new int[n];
                for (int k = 0; k < n; k++) {
                    due[k] = k + 1;
                }
                items(x, 3, form, due);
                items(x, 0, form, due);
            }
            RenameGraph y = twoRows(form, 4, 3);
            check.due("copy(0, 3, 3, 2, 1)", y.copy(0, 3, 3, 2, 1), 1);
            items(y, 3, form, -1, -2, 4);
            RenameGraph z = twoRows(form, 4, 3);
            check.due("copy(0, 1, 3, 0, 3)", z.copy(0, 1, 3, 0, 3), 1);
            items(z, 3, form, 2, 3, 4);
            items(z, 0, form, 1, 2, 3, 4);
        }
    }

    private static void copiesAsTheyWere() {
        check.sentence("perhaps s, as they were");
        for (int form = 0; form <= 2; form++) {
            for (int i = 0; i <= 6; i++) {
                for (int j = 0; j <= 6; j++) {
                    for (int n = 0; n <= 6 - Math.max(i, j); n++) {
                        RenameGraph x = twoRows(form, 6, 0);
                        int[] due = {1, 2, 3, 4, 5, 6};
                        System.arraycopy(new int[] {1, 2, 3, 4, 5, 6}, i, due, j, n);
                        check.due("copy(0, " + i + ", 0, " + j + ", " + n + ")", x.copy(0, i, 0, j, n), 1);
                        items(x, 0, form, due);
                    }
                }
            }
        }
    }

    private static void copiesOfNoneToo() {
        check.sentence("of n 0, too: i or j above the size");
        Consumer<RenameGraph> past = SheetsEdgesTest::rows;
        for (int s = 0; s <= 2; s++) {
            int row = s;
            int size = 3 + s;
            for (int i = 0; i <= size; i++) {
                int at = i;
                check.refuses("copy() of none at " + i, past, x -> x.copy(row, at, row, size, 0), 1);
                check.refuses("copy() of none to " + i, past, x -> x.copy(row, size, row, at, 0), 1);
            }
            for (int above : new int[] {size + 1, 60, 61, MOST}) {
                check.finds("copy() of none from " + above, past, x -> x.copy(row, above, row, 0, 0), INDEX, 2);
                check.finds("copy() of none to " + above, past, x -> x.copy(row, 0, row, above, 0), INDEX, 2);
            }
        }
        RenameGraph empty = twoRows(1, 0, 0);
        check.due("copy() of none from none", empty.copy(0, 0, 3, 0, 0), 1);
        check.due("copy() from 1 of none", empty.copy(0, 1, 3, 0, 0), INDEX);
        check.due("copy() to 1 of none", empty.copy(0, 0, 3, 1, 0), INDEX);
        check.due("copy() of one from none", empty.copy(0, 0, 3, 0, 1), INDEX);
        RenameGraph full = twoRows(1, 60, 60);
        check.due("copy() of none at 60", full.copy(0, 60, 3, 60, 0), 1);
        check.due("copy() of none from 61", full.copy(0, 61, 3, 60, 0), INDEX);
        check.due("copy() of none to 61", full.copy(0, 60, 3, 61, 0), INDEX);
    }

    private static void copyRefused() {
        check.sentence("copy: BAD: the SHEETS; NULL: s, t; STORE");
        Consumer<RenameGraph> past = SheetsEdgesTest::rows;
        for (int no : NO_SHEETS) {
            check.refuses("copy() from " + no, past, x -> x.copy(no, 0, 0, 0, 1), BAD);
            check.refuses("copy() to " + no, past, x -> x.copy(0, 0, no, 0, 1), BAD);
            check.refuses("copy() from and to " + no, past, x -> x.copy(no, 0, no, 0, 1), BAD);
        }
        for (int s = 0; s <= 2; s++) {
            int row = s;
            check.finds("copy() from a lost one", past, x -> x.copy(3, 0, row, 0, 1), NULL, 1);
            check.finds("copy() to a lost one", past, x -> x.copy(row, 0, 3, 0, 1), NULL, 1);
            for (int t = 0; t <= 2; t++) {
                int to = t;
                if (t != s) {
                    check.finds("copy() of unlike forms", past, x -> x.copy(row, 0, to, 0, 1), STORE, 4);
                    check.finds("copy() of unlike forms, none", past, x -> x.copy(row, 0, to, 0, 0), STORE, 4);
                }
            }
        }
        check.finds("copy() from and to a lost one", past, x -> x.copy(3, 0, 3, 0, 0), NULL, 1);
    }

    private static void copyIndex() {
        check.sentence("INDEX: i, j or n below 0, not so many there");
        Consumer<RenameGraph> past = x -> {
            rows(x);
            x.sheet(3, 2, 4);
        };
        for (int below : new int[] {-1, -2, -60, LEAST}) {
            check.finds("copy() from " + below, past, x -> x.copy(2, below, 3, 0, 1), INDEX, 2);
            check.finds("copy() to " + below, past, x -> x.copy(2, 0, 3, below, 1), INDEX, 2);
            check.finds("copy() of " + below, past, x -> x.copy(2, 0, 3, 0, below), INDEX, 2);
            check.finds("copy() of none from " + below, past, x -> x.copy(2, below, 3, 0, 0), INDEX, 2);
            check.finds("copy() of none to " + below, past, x -> x.copy(2, 0, 3, below, 0), INDEX, 2);
            check.finds("copy() of " + below + " from 3", past, x -> x.copy(2, 3, 3, 3, below), INDEX, 2);
        }
        // five items are there, and room for four
        check.due("copy(2, 1, 3, 0, 4)", behind(past).copy(2, 1, 3, 0, 4), 1);
        check.finds("copy(2, 0, 3, 0, 5)", past, x -> x.copy(2, 0, 3, 0, 5), INDEX, 2);
        check.finds("copy(2, 2, 3, 0, 4)", past, x -> x.copy(2, 2, 3, 0, 4), INDEX, 2);
        check.finds("copy(2, 0, 3, 1, 4)", past, x -> x.copy(2, 0, 3, 1, 4), INDEX, 2);
        check.due("copy(3, 0, 2, 1, 4)", behind(past).copy(3, 0, 2, 1, 4), 1);
        check.finds("copy(3, 0, 2, 2, 4)", past, x -> x.copy(3, 0, 2, 2, 4), INDEX, 2);
        check.finds("copy(3, 0, 2, 0, 5)", past, x -> x.copy(3, 0, 2, 0, 5), INDEX, 2);
        check.finds("copy(3, 3, 2, 0, 2)", past, x -> x.copy(3, 3, 2, 0, 2), INDEX, 2);
        for (int n : new int[] {60, 61, 256, MOST - 1, MOST}) {
            check.finds("copy() of " + n, past, x -> x.copy(2, 0, 3, 0, n), INDEX, 2);
            check.finds("copy() of " + n + " from 1", past, x -> x.copy(2, 1, 3, 1, n), INDEX, 2);
            check.finds("copy() from " + n, past, x -> x.copy(2, n, 3, 0, 1), INDEX, 2);
            check.finds("copy() to " + n, past, x -> x.copy(2, 0, 3, n, 1), INDEX, 2);
            check.finds("copy() of all " + n, past, x -> x.copy(2, n, 3, n, n), INDEX, 2);
        }
    }

    private static RenameGraph behind(Consumer<RenameGraph> past) {
        RenameGraph x = new RenameGraph();
        past.accept(x);
        return x;
    }

    private static void copyAtTheEndOfSixty() {
        check.sentence("2 INDEX: there is no such item (at the end of sixty)");
        for (int form = 0; form <= 2; form++) {
            RenameGraph x = twoRows(form, 60, 60);
            check.due("copy(0, 59, 3, 59, 1)", x.copy(0, 59, 3, 59, 1), 1);
            check.due("get(3, 59)", x.get(3, form, 59), 60);
            check.due("copy(0, 59, 3, 58, 2)", x.copy(0, 59, 3, 58, 2), INDEX);
            check.due("copy(0, 58, 3, 59, 2)", x.copy(0, 58, 3, 59, 2), INDEX);
            check.due("copy(0, 60, 3, 0, 1)", x.copy(0, 60, 3, 0, 1), INDEX);
            check.due("copy(0, 0, 3, 60, 1)", x.copy(0, 0, 3, 60, 1), INDEX);
            check.due("copy(0, 0, 3, 0, 61)", x.copy(0, 0, 3, 0, 61), INDEX);
            check.due("get(3, 58)", x.get(3, form, 58), -59);
        }
    }

    private static void copyFirstThatFits() {
        check.sentence("copy: of two refusals the first: BAD; NULL; STORE; INDEX");
        Consumer<RenameGraph> past = SheetsEdgesTest::rows;
        check.refuses("from a lost one to none", past, x -> x.copy(3, 0, 4, 0, 1), BAD);
        check.refuses("from none to a lost one", past, x -> x.copy(-1, 0, 3, 0, 1), BAD);
        check.refuses("from none, n below 0", past, x -> x.copy(4, 0, 0, 0, -1), BAD);
        check.refuses("to none, i below 0", past, x -> x.copy(0, -1, 4, 0, 1), BAD);
        check.finds("from a lost one, i below 0", past, x -> x.copy(3, -1, 0, 0, 1), NULL, 1);
        check.finds("to a lost one, n below 0", past, x -> x.copy(0, 0, 3, 0, -1), NULL, 1);
        check.finds("to a lost one, too many", past, x -> x.copy(2, 0, 3, 0, 60), NULL, 1);
        check.finds("unlike forms, i below 0", past, x -> x.copy(0, -1, 1, 0, 1), STORE, 4);
        check.finds("unlike forms, j above", past, x -> x.copy(1, 0, 2, 9, 1), STORE, 4);
        check.finds("unlike forms, n below 0", past, x -> x.copy(2, 0, 0, 0, LEAST), STORE, 4);
        check.finds("unlike forms, too many", past, x -> x.copy(2, 0, 1, 0, 5), STORE, 4);
    }

    // ---- promise 27

    private static void writesAsManyAsThereAre() {
        check.sentence("from item 0 on, as many as there are items, and NODES: how many");
        for (int form = 0; form <= 2; form++) {
            for (int nodes : new int[] {0, 1, 2, 59, 60}) {
                for (int n : new int[] {0, 1, 2, 59, 60}) {
                    RenameGraph x = Check.of("b".repeat(nodes));
                    x.sheet(2, form, n);
                    for (int k = 0; k < n; k++) {
                        x.put(2, form, k, 77);
                    }
                    int due = Math.min(n, nodes);
                    check.due("write(2) of " + nodes + " into " + n, x.write(2), due);
                    for (int k = 0; k < n; k++) {
                        check.due("get(2, " + form + ", " + k + ")", x.get(2, form, k), k < due ? -1 : 77);
                    }
                }
            }
        }
        // the text is as it was, and so are the others
        check.due("state behind write()", State.unlike(x -> {
            rows(x);
            x.put(2, 2, 0, -1);
            x.put(2, 2, 1, 1);
            x.put(2, 2, 2, 1);
        }, x -> {
            rows(x);
            x.write(2);
        }), "");
    }

    private static void writesItselfOrNone() {
        check.sentence("What NODES are BOUND to (of a DECLARATION: itself)");
        for (int form = 0; form <= 2; form++) {
            RenameGraph x = Check.of("c+a{a+b^b}b");
            x.sheet(0, form, 7);
            check.due("write(0)", x.write(0), 6);
            items(x, 0, form, -1, 1, 1, 3, -1, -1, 0);
            RenameGraph y = Check.of("a".repeat(59) + "+a");
            y.sheet(1, form, 60);
            check.due("write(1)", y.write(1), 60);
            int[] due = new int[60];
            Arrays.fill(due, 59);
            items(y, 1, form, due);
        }
        RenameGraph z = Check.of("+a+a");
        z.sheet(0, 0, 3);
        check.due("write(0) with a fault", z.write(0), 0);
    }

    private static void writeRefused() {
        check.sentence("write: BAD; NULL.");
        for (int s : NO_SHEETS) {
            check.refuses("write(" + s + ")", SheetsEdgesTest::rows, x -> x.write(s), BAD);
        }
        check.finds("write(3)", SheetsEdgesTest::rows, x -> x.write(3), NULL, 1);
        check.finds("write(0) of a new object", x -> { }, x -> x.write(0), NULL, 1);
        check.refuses("write() with no nodes", x -> x.sheet(0, 0, 3), x -> x.write(0), 0);
    }

    // ---- findings

    private static void latestFinding() {
        check.sentence("FINDINGS (answers -10 less the number; they change nothing but count() 8)");
        RenameGraph x = withRows();
        check.due("count(8) before any", x.count(8), 0);
        int[] answers = {
            x.lose(3), x.count(8), x.put(0, 0, 3, 1), x.count(8), x.put(0, 1, 0, 1), x.count(8),
            x.copy(0, 0, 1, 0, 1), x.count(8), x.sheet(0, 0, -1), x.count(8), x.write(3), x.count(8),
        };
        int[] numbers = {1, 2, 3, 4, 5, 1};
        for (int k = 0; k < numbers.length; k++) {
            check.due("answer of finding " + numbers[k], answers[2 * k], -10 - numbers[k]);
            check.due("count(8) of finding " + numbers[k], answers[2 * k + 1], numbers[k]);
        }
        // calls that find nothing leave it, those that are refused otherwise, too
        x.sheet(0, 0, -1);
        x.type('a');
        x.type(256);
        x.wipe();
        x.undo();
        x.back();
        x.get(0, 0, 0);
        x.get(0, 3, 0);
        x.lose(0);
        x.lose(4);
        x.write(2);
        check.due("count(8) of the latest", x.count(8), 5);
    }
}
