/** Promises 22 to 27: sheets, and the findings of their calls. */
public final class SheetsTest {
    private static final int BAD = RenameGraph.BAD, LEAST = Integer.MIN_VALUE;
    private static final int NULL = -11, INDEX = -12, CAST = -13, STORE = -14, SIZE = -15;
    private static final Check check = new Check("SheetsTest");

    public static void main(String[] args) {
        making();
        losing();
        putting();
        narrowing();
        getting();
        copying();
        copyingWithinOne();
        copyRefusals();
        copyEdges();
        writing();
        writingLittle();
        findingsChangeNothing();
        check.end();
    }

    private static void making() {
        RenameGraph x = new RenameGraph();
        check.due("sheet(0, 0, 0)", x.sheet(0, 0, 0), 0);
        check.due("sheet(3, 2, 60)", x.sheet(3, 2, 60), 60);
        for (int k = 0; k < 60; k++) {
            check.due("get(3, 2, " + k + ")", x.get(3, 2, k), 0);
        }
        check.due("sheet(0, 0, 61)", x.sheet(0, 0, 61), BAD);
        check.due("sheet(-1, 0, 1)", x.sheet(-1, 0, 1), BAD);
        check.due("sheet(4, 0, 1)", x.sheet(4, 0, 1), BAD);
        check.due("sheet(0, -1, 1)", x.sheet(0, -1, 1), BAD);
        check.due("sheet(0, 3, 1)", x.sheet(0, 3, 1), BAD);
        check.due("sheet(4, 0, -1)", x.sheet(4, 0, -1), BAD);
        check.due("sheet(0, 3, -1)", x.sheet(0, 3, -1), BAD);
        check.due("count(8)", x.count(8), 0);
        check.due("sheet(0, 0, -1)", x.sheet(0, 0, -1), SIZE);
        check.due("sheet(0, 0, min)", x.sheet(0, 0, LEAST), SIZE);
        check.due("count(8)", x.count(8), 5);
        x.put(3, 2, 59, 7);
        check.due("sheet(3, 1, 60) anew", x.sheet(3, 1, 60), 60);
        check.due("get(3, 1, 59) of a new row", x.get(3, 1, 59), 0);
    }

    private static void losing() {
        RenameGraph x = new RenameGraph();
        x.sheet(1, 1, 9);
        check.due("lose(1)", x.lose(1), 9);
        check.due("lose(1) again", x.lose(1), NULL);
        check.due("count(8)", x.count(8), 1);
        check.due("lose(-1)", x.lose(-1), BAD);
        check.due("lose(4)", x.lose(4), BAD);
    }

    private static void putting() {
        RenameGraph x = new RenameGraph();
        check.due("put(0, 0, 0, 1) of a lost one", x.put(0, 0, 0, 1), NULL);
        check.due("put(4, 0, 0, 1)", x.put(4, 0, 0, 1), BAD);
        check.due("put(-1, 0, 0, 1)", x.put(-1, 0, 0, 1), BAD);
        check.due("put(0, 3, 0, 1)", x.put(0, 3, 0, 1), BAD);
        check.due("put(0, -1, 0, 1)", x.put(0, -1, 0, 1), BAD);
        x.sheet(0, 1, 2);
        check.due("put(0, 1, 1, 5)", x.put(0, 1, 1, 5), 1);
        check.due("get(0, 1, 1)", x.get(0, 1, 1), 5);
        check.due("put(0, 0, 0, 1)", x.put(0, 0, 0, 1), CAST);
        check.due("count(8)", x.count(8), 3);
        check.due("put(0, 2, 9, 1)", x.put(0, 2, 9, 1), CAST);
        check.due("put(0, 1, 2, 1)", x.put(0, 1, 2, 1), INDEX);
        check.due("count(8)", x.count(8), 2);
        check.due("put(0, 1, -1, 1)", x.put(0, 1, -1, 1), INDEX);
        check.due("put(0, 1, 60, 1)", x.put(0, 1, 60, 1), INDEX);
        check.due("put(0, 1, min, 1)", x.put(0, 1, LEAST, 1), INDEX);
    }

    private static void narrowing() {
        RenameGraph x = new RenameGraph();
        int[] values = {127, 128, 255, 256, -129, 32767, 32768, 65535, 65536, Integer.MAX_VALUE, LEAST};
        for (int form = 0; form < 3; form++) {
            x.sheet(form, form, 1);
            for (int v : values) {
                x.put(form, form, 0, v);
                int want = form == 0 ? (byte) v : form == 1 ? (short) v : v;
                check.due("form " + form + " of " + v, x.get(form, form, 0), want);
            }
        }
    }

    private static void getting() {
        RenameGraph x = new RenameGraph();
        check.due("get(4, 0, 0)", x.get(4, 0, 0), LEAST);
        check.due("get(0, 3, 0)", x.get(0, 3, 0), LEAST);
        check.due("count(8)", x.count(8), 0);
        check.due("get(0, 0, 0)", x.get(0, 0, 0), LEAST);
        check.due("count(8) NULL", x.count(8), 1);
        x.sheet(0, 0, 1);
        check.due("get(0, 0, 1)", x.get(0, 0, 1), LEAST);
        check.due("count(8) INDEX", x.count(8), 2);
        check.due("get(0, 1, 1)", x.get(0, 1, 1), LEAST);
        check.due("count(8) CAST", x.count(8), 3);
        check.due("get(0, 0, -1)", x.get(0, 0, -1), LEAST);
        check.due("count(8) INDEX", x.count(8), 2);
        check.due("get(4, 0, 0)", x.get(4, 0, 0), LEAST);
        check.due("count(8) stays", x.count(8), 2);
    }

    private static RenameGraph withFive(int form) {
        RenameGraph x = new RenameGraph();
        x.sheet(0, form, 5);
        for (int k = 0; k < 5; k++) {
            x.put(0, form, k, k + 1);
        }
        return x;
    }

    private static void row(RenameGraph x, int s, int form, int... due) {
        for (int k = 0; k < due.length; k++) {
            check.due("get(" + s + ", " + form + ", " + k + ")", x.get(s, form, k), due[k]);
        }
        check.due("get behind all", x.get(s, form, due.length), LEAST);
    }

    private static void copying() {
        for (int form = 0; form < 3; form++) {
            RenameGraph x = withFive(form);
            x.sheet(1, form, 4);
            check.due("copy(0, 2, 1, 1, 3)", x.copy(0, 2, 1, 1, 3), 1);
            row(x, 1, form, 0, 3, 4, 5);
            row(x, 0, form, 1, 2, 3, 4, 5);
        }
    }

    private static void copyingWithinOne() {
        RenameGraph x = withFive(2);
        check.due("copy(0, 0, 0, 1, 4)", x.copy(0, 0, 0, 1, 4), 1);
        row(x, 0, 2, 1, 1, 2, 3, 4);
        check.due("copy(0, 1, 0, 0, 4)", x.copy(0, 1, 0, 0, 4), 1);
        row(x, 0, 2, 1, 2, 3, 4, 4);
    }

    private static void copyRefusals() {
        RenameGraph x = withFive(0);
        check.due("copy(4, 0, 0, 0, 0)", x.copy(4, 0, 0, 0, 0), BAD);
        check.due("copy(0, 0, -1, 0, 0)", x.copy(0, 0, -1, 0, 0), BAD);
        check.due("copy(1, 0, 4, 0, 0)", x.copy(1, 0, 4, 0, 0), BAD);
        check.due("count(8)", x.count(8), 0);
        check.due("copy(0, 0, 1, 0, 0)", x.copy(0, 0, 1, 0, 0), NULL);
        check.due("copy(1, 0, 0, 0, -1)", x.copy(1, 0, 0, 0, -1), NULL);
        check.due("count(8)", x.count(8), 1);
        x.sheet(1, 1, 5);
        check.due("copy(0, 0, 1, 0, 0) of unlike forms", x.copy(0, 0, 1, 0, 0), STORE);
        check.due("copy(0, -1, 1, 0, 9) of unlike forms", x.copy(0, -1, 1, 0, 9), STORE);
        check.due("count(8)", x.count(8), 4);
        x.sheet(1, 0, 4);
        check.due("copy(0, 0, 1, 0, 5)", x.copy(0, 0, 1, 0, 5), INDEX);
        check.due("count(8)", x.count(8), 2);
        row(x, 1, 0, 0, 0, 0, 0);
    }

    private static void copyEdges() {
        RenameGraph x = withFive(0);
        x.sheet(1, 0, 4);
        check.due("copy(0, 5, 1, 4, 0)", x.copy(0, 5, 1, 4, 0), 1);
        check.due("copy(0, 6, 1, 4, 0)", x.copy(0, 6, 1, 4, 0), INDEX);
        check.due("copy(0, 5, 1, 5, 0)", x.copy(0, 5, 1, 5, 0), INDEX);
        check.due("copy(0, -1, 1, 0, 1)", x.copy(0, -1, 1, 0, 1), INDEX);
        check.due("copy(0, 0, 1, -1, 1)", x.copy(0, 0, 1, -1, 1), INDEX);
        check.due("copy(0, 0, 1, 0, -1)", x.copy(0, 0, 1, 0, -1), INDEX);
        check.due("copy(0, 2, 1, 0, 4)", x.copy(0, 2, 1, 0, 4), INDEX);
        check.due("copy(0, 0, 1, 2, 3)", x.copy(0, 0, 1, 2, 3), INDEX);
        check.due("copy(0, max, 1, 0, 1)", x.copy(0, Integer.MAX_VALUE, 1, 0, 1), INDEX);
        check.due("copy(0, 1, 1, 0, max)", x.copy(0, 1, 1, 0, Integer.MAX_VALUE), INDEX);
        check.due("copy(0, 0, 1, 0, min)", x.copy(0, 0, 1, 0, LEAST), INDEX);
        check.due("copy(0, 1, 1, 0, 4)", x.copy(0, 1, 1, 0, 4), 1);
        row(x, 1, 0, 2, 3, 4, 5);
    }

    private static void writing() {
        for (int form = 0; form < 3; form++) {
            RenameGraph x = Check.of("b+a{a}");
            x.sheet(2, form, 5);
            x.put(2, form, 3, 9);
            check.due("write(2)", x.write(2), 3);
            row(x, 2, form, -1, 1, 1, 9, 0);
        }
        RenameGraph y = new RenameGraph();
        check.due("write(-1)", y.write(-1), BAD);
        check.due("write(4)", y.write(4), BAD);
        check.due("count(8)", y.count(8), 0);
        check.due("write(0) of a lost one", y.write(0), NULL);
        check.due("count(8)", y.count(8), 1);
    }

    private static void writingLittle() {
        RenameGraph x = Check.of("b+a{a}");
        x.sheet(2, 0, 2);
        check.due("write(2) of two items", x.write(2), 2);
        row(x, 2, 0, -1, 1);
        x.sheet(2, 0, 0);
        check.due("write(2) of no items", x.write(2), 0);
        x.sheet(2, 0, 60);
        x.wipe();
        check.due("write(2) of no nodes", x.write(2), 0);
        Check.tell(x, "a".repeat(59) + "+a");
        check.due("write(2) of sixty", x.write(2), 60);
        check.due("get(2, 0, 0)", x.get(2, 0, 0), 59);
        check.due("get(2, 0, 59)", x.get(2, 0, 59), 59);
    }

    private static void findingsChangeNothing() {
        RenameGraph x = Check.of("+ab");
        x.rename(0, 'c');
        long was = x.digest();
        x.get(0, 0, 0);
        x.sheet(0, 0, -1);
        x.read(0);
        x.write(0);
        x.copy(0, 0, 0, 0, 0);
        check.due("digest() behind findings", x.digest(), was);
        check.due("count(7) behind findings", x.count(7), 1);
        check.due("lose(0) behind findings", x.lose(0), NULL);
    }
}
