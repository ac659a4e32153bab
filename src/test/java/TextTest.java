/** Promises 1 to 7: the text, told byte by byte, and its fault. */
public final class TextTest {
    private static final Check check = new Check("TextTest");

    public static void main(String[] args) {
        newObject();
        typing();
        wiping();
        undoing();
        faults();
        faultsAtLimits();
        withFaultAsIfEmpty();
        reading();
        showing();
        check.end();
    }

    private static void newObject() {
        RenameGraph x = new RenameGraph();
        check.due("new count(0)", x.count(0), 0);
        check.due("new count(1)", x.count(1), 0);
        check.due("new count(2)", x.count(2), 1);
        for (int what = 3; what <= 8; what++) {
            check.due("new count(" + what + ")", x.count(what), 0);
        }
        for (int s = 0; s < 4; s++) {
            check.due("new lose(" + s + ")", x.lose(s), -11);
        }
        check.due("new fault()", x.fault(), RenameGraph.NONE);
        check.due("new idle()", x.idle(), 0);
        check.due("new back()", x.back(), RenameGraph.NOT);
    }

    private static void typing() {
        RenameGraph x = new RenameGraph();
        check.due("type(0)", x.type(0), 1);
        check.due("type(255)", x.type(255), 2);
        check.due("type(-1)", x.type(-1), RenameGraph.BAD);
        check.due("type(256)", x.type(256), RenameGraph.BAD);
        check.due("count(0)", x.count(0), 2);
        for (int k = 3; k <= 100; k++) {
            check.due("type a", x.type('a'), k);
        }
        check.due("type a 101st", x.type('a'), RenameGraph.FULL);
        check.due("type(256) when full", x.type(256), RenameGraph.BAD);
        check.due("count(0)", x.count(0), 100);
    }

    private static void wiping() {
        RenameGraph x = Check.of("+a{b}");
        check.due("wipe()", x.wipe(), 5);
        check.due("wipe() again", x.wipe(), 0);
        check.due("count(1)", x.count(1), 0);
        check.due("count(2)", x.count(2), 1);
        check.due("shown(0)", x.shown(0), RenameGraph.NONE);
    }

    private static void undoing() {
        RenameGraph x = Check.of("ab");
        check.due("undo()", x.undo(), 1);
        check.due("count(1)", x.count(1), 1);
        check.due("undo()", x.undo(), 0);
        check.due("undo() of none", x.undo(), RenameGraph.NOT);
        RenameGraph y = Check.of("+a+a");
        check.due("fault()", y.fault(), 3);
        y.undo();
        check.due("fault() behind undo()", y.fault(), 3);
        y.undo();
        check.due("fault() behind two", y.fault(), RenameGraph.NONE);
    }

    private static void fault(String text, int want) {
        check.due("fault() of " + text, Check.of(text).fault(), want);
    }

    private static void faults() {
        fault("", -1);
        fault("a", -1);
        fault("z", -1);
        fault("`", 0);
        fault("A", 0);
        fault(" ", 0);
        fault("+", 1);
        fault("++a", 1);
        fault("+a+b", -1);
        fault("+a+a", 3);
        fault("+a{+a}", -1);
        fault("+a{+a}+a", 7);
        fault("+a{+a+b+a}", 8);
        fault("{+a}{+a}", -1);
        fault("^a", -1);
        fault("^^^a", -1);
        fault("^^^^a", 3);
        fault("^", 1);
        fault("^^^", 3);
        fault("^+a", 1);
        fault("^{", 1);
        fault("+^a", 1);
        fault("+{", 1);
        fault("{", 1);
        fault("}", 0);
        fault("{}", -1);
        fault("{}}", 2);
        fault("{{}", 3);
        fault("<", 0);
        fault("a<1", 1);
        fault("{a<1}", 2);
        fault("{<", 2);
        fault("{<}", 2);
        fault("{<0}", 2);
        fault("{<1}", 2);
        fault("{<a}", 2);
        fault("{}{<0}", 4);
        fault("{}{<1}", -1);
        fault("{}{<1", 5);
        fault("{}{<2}", 4);
        fault("{}{<3}", 4);
        fault("{}{<11}", 5);
        fault("{}{<1<1}", 5);
        fault("{{}{<2}}", -1);
        fault("{{}{<1}}", 5);
        fault("{{}}{<2}{<3}", -1);
        fault("{}{<:}", 4);
        fault("{}{</}", 4);
        fault("a1", 1);
    }

    private static void faultsAtLimits() {
        fault("{}{}{}{}{}{}{}{}{}", -1);
        fault("{}{}{}{}{}{}{}{}{}{}", 18);
        fault("{{{{{{{{{}}}}}}}}}", -1);
        fault("{{{{{{{{{{", 9);
        fault("{}{}{}{}{}{}{}{}{<8}", -1);
        fault("{}{}{}{}{}{}{}{}{<9}", 18);
        String sixty = "a".repeat(60);
        fault(sixty, -1);
        fault(sixty + "a", 60);
        fault(sixty + "+a", 61);
        fault(sixty + "^^a", 62);
        fault(sixty + "^", 61);
        fault(sixty + "{}", -1);
        fault("{".concat("a".repeat(60)), 61);
        fault("{}".repeat(9).concat("^^^a".repeat(20)) + "+a", -1);
        fault("{}".repeat(9).concat("^^^a".repeat(20)) + "++", 99);
        fault("{}".repeat(9).concat("^^^a".repeat(20)) + "a+", 100);
    }

    private static void withFaultAsIfEmpty() {
        RenameGraph x = Check.of("+a{+b a");
        check.due("count(0)", x.count(0), 7);
        check.due("count(1)", x.count(1), 0);
        check.due("count(2)", x.count(2), 1);
        check.due("count(5)", x.count(5), 0);
        check.due("shown(1)", x.shown(1), 'a');
        check.due("node(0, 0)", x.node(0, 0), RenameGraph.BAD);
        check.due("scope(0, 2)", x.scope(0, 2), 0);
        check.due("scope(0, 3)", x.scope(0, 3), 0);
        check.due("scope(1, 0)", x.scope(1, 0), RenameGraph.BAD);
        check.due("own(0, a)", x.own(0, 'a'), RenameGraph.NONE);
        check.due("idle()", x.idle(), 0);
        x.sheet(0, 0, 5);
        check.due("write(0)", x.write(0), 0);
    }

    private static void reading() {
        RenameGraph x = Check.of("+b");
        x.sheet(2, 2, 3);
        x.put(2, 2, 0, '+');
        x.put(2, 2, 1, 'a');
        x.put(2, 2, 2, 255);
        check.due("read(2)", x.read(2), 3);
        check.due("text", Check.textOf(x), "+b+a\u00ff");
        check.due("read(-1)", x.read(-1), RenameGraph.BAD);
        check.due("read(4)", x.read(4), RenameGraph.BAD);
        check.due("count(8)", x.count(8), 0);
        check.due("read(3)", x.read(3), -11);
        check.due("count(8)", x.count(8), 1);
        readingAtTheEnd();
        readingNoBytes();
        readingUpToNoByte();
        readingOfEachForm();
    }

    private static void readingAtTheEnd() {
        RenameGraph x = Check.of("{}".repeat(49));
        x.sheet(0, 1, 60);
        x.put(0, 1, 0, 'a');
        x.put(0, 1, 1, 'b');
        check.due("read(0) into two bytes", x.read(0), 2);
        check.due("shown(99)", x.shown(99), 'b');
        check.due("read(0) when full", x.read(0), 0);
        check.due("count(0)", x.count(0), 100);
        x.sheet(1, 0, 0);
        x.wipe();
        check.due("read(1) of no items", x.read(1), 0);
    }

    /** An item as its form holds it: it comes if it is 0 to 255, and is no other byte then. */
    private static void readingNoBytes() {
        int[] values = {
            0, 1, 'a', 127, 128, 200, 255, 256, 256 + 'a', 511, -1, -56, -128, -129, -256, -256 + 'a',
            32767, 32768, 65535, 65536, 65536 + 'a', Integer.MAX_VALUE, Integer.MIN_VALUE, Integer.MIN_VALUE + 'a',
        };
        for (int form = 0; form < 3; form++) {
            for (int v : values) {
                RenameGraph x = new RenameGraph();
                x.sheet(0, form, 1);
                x.put(0, form, 0, v);
                int held = form == 0 ? (byte) v : form == 1 ? (short) v : v;
                boolean comes = held >= 0 && held <= 255;
                String what = " of " + v + " in form " + form;
                check.due("read(0)" + what, x.read(0), comes ? 1 : 0);
                check.due("count(0)" + what, x.count(0), comes ? 1 : 0);
                check.due("shown(0)" + what, x.shown(0), comes ? held : RenameGraph.NONE);
                check.due("count(8)" + what, x.count(8), 0);
                check.due("get" + what, x.get(0, form, 0), held);
            }
        }
    }

    /** With the first item that is no byte it ends, though bytes stand behind that. */
    private static void readingUpToNoByte() {
        for (int form = 0; form < 3; form++) {
            for (int at = 0; at < 5; at++) {
                RenameGraph x = Check.of("z");
                x.sheet(1, form, 5);
                for (int k = 0; k < 5; k++) {
                    x.put(1, form, k, k == at ? -1 : 'a' + k);
                }
                check.due("read(1) up to item " + at, x.read(1), at);
                check.due("text", Check.textOf(x), "z" + "abcde".substring(0, at));
                check.due("read(1) once more", x.read(1), at);
            }
        }
    }

    private static void readingOfEachForm() {
        for (int form = 0; form < 3; form++) {
            RenameGraph x = Check.of("{}".repeat(9) + "^^^a".repeat(20));
            x.sheet(3, form, 4);
            for (int k = 0; k < 4; k++) {
                x.put(3, form, k, "+bcd".charAt(k));
            }
            check.due("read(3), room for two", x.read(3), 2);
            check.due("shown(99)", x.shown(99), 'b');
            check.due("fault()", x.fault(), RenameGraph.NONE);
            check.due("count(3)", x.count(3), 1);
            x.put(3, form, 0, -1);
            check.due("read(3) of no byte when full", x.read(3), 0);
            x.undo();
            check.due("read(3) of no byte, room for one", x.read(3), 0);
            check.due("count(0)", x.count(0), 99);
        }
    }

    private static void showing() {
        RenameGraph x = Check.of("{b}");
        check.due("shown(0)", x.shown(0), '{');
        check.due("shown(2)", x.shown(2), '}');
        check.due("shown(3)", x.shown(3), RenameGraph.NONE);
        check.due("shown(99)", x.shown(99), RenameGraph.NONE);
        check.due("shown(100)", x.shown(100), RenameGraph.BAD);
        check.due("shown(-1)", x.shown(-1), RenameGraph.BAD);
        RenameGraph y = Check.of("\u00ff");
        check.due("shown(0) of 255", y.shown(0), 255);
    }
}
