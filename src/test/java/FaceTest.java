import java.io.IOException;
import java.lang.reflect.Constructor;
import java.lang.reflect.Field;
import java.lang.reflect.Method;
import java.lang.reflect.Modifier;
import java.nio.file.Files;
import java.nio.file.Path;
import java.util.ArrayList;
import java.util.List;
import java.util.Map;
import java.util.Set;
import java.util.TreeMap;
import java.util.TreeSet;
import java.util.regex.Matcher;
import java.util.regex.Pattern;

/** The public face, and those rules of LANGUAGE.md that can be seen from outside. */
public final class FaceTest {
    private static final Check check = new Check("FaceTest");
    private static final String[] FACE = {
        "int type(int)", "int wipe()", "int undo()", "int fault()", "int read(int)", "int shown(int)",
        "int node(int, int)", "int scope(int, int)", "int bound(int)", "int own(int, int)",
        "long family(int)", "long uses(int)", "int hides(int)", "long idle()",
        "int plan(int, int, int)", "int edits(int, int, int)", "int caught(int, int, int)",
        "int easy(int)", "int rename(int, int)", "int back()",
        "int sheet(int, int, int)", "int lose(int)", "int put(int, int, int, int)",
        "int get(int, int, int)", "int copy(int, int, int, int, int)", "int write(int)",
        "int count(int)", "long digest()",
    };
    private static final String[] CONSTANTS = {"NONE -1", "BAD -2", "NOT -3", "FULL -4"};

    public static void main(String[] args) throws IOException, IllegalAccessException {
        methods();
        constants();
        classesInside(RenameGraph.class);
        source(Files.readString(Path.of(args.length > 0 ? args[0] : "src/main/java/RenameGraph.java")));
        check.end();
    }

    private static String told(Method m) {
        StringBuilder b = new StringBuilder(m.getReturnType() + " " + m.getName() + "(");
        for (int k = 0; k < m.getParameterCount(); k++) {
            b.append(k == 0 ? "" : ", ").append(m.getParameterTypes()[k]);
        }
        return b.append(")").toString();
    }

    private static void methods() {
        Set<String> open = new TreeSet<>();
        Set<String> openNames = new TreeSet<>();
        for (Method m : RenameGraph.class.getDeclaredMethods()) {
            if (!Modifier.isPrivate(m.getModifiers())) {
                check.holds(m.getName() + " is public", Modifier.isPublic(m.getModifiers()));
                check.holds(m.getName() + " is no static one", !Modifier.isStatic(m.getModifiers()));
                open.add(told(m));
                openNames.add(m.getName());
            }
        }
        check.due("the methods", open.toString(), new TreeSet<>(List.of(FACE)).toString());
        for (Class<?> c : withInside(RenameGraph.class)) {
            for (Method m : c.getDeclaredMethods()) {
                boolean face = c == RenameGraph.class && Modifier.isPublic(m.getModifiers());
                check.holds(c + " " + m.getName() + " has its own name", face || !openNames.contains(m.getName()));
                check.holds(m.getName() + " takes at most seven", m.getParameterCount() <= 7);
            }
        }
        Constructor<?>[] made = RenameGraph.class.getDeclaredConstructors();
        check.due("constructors", made.length, 1);
        check.due("its parameters", made[0].getParameterCount(), 0);
        check.holds("it is public", Modifier.isPublic(made[0].getModifiers()));
        int how = RenameGraph.class.getModifiers();
        check.holds("public final", Modifier.isPublic(how) && Modifier.isFinal(how));
    }

    private static void constants() throws IllegalAccessException {
        Set<String> open = new TreeSet<>();
        for (Field f : RenameGraph.class.getDeclaredFields()) {
            if (!Modifier.isPrivate(f.getModifiers())) {
                check.holds(f.getName() + " is constant", f.toString().startsWith("public static final int"));
                open.add(f.getName() + " " + f.getInt(null));
            }
        }
        check.due("the constants", open.toString(), new TreeSet<>(List.of(CONSTANTS)).toString());
    }

    private static List<Class<?>> withInside(Class<?> c) {
        List<Class<?>> all = new ArrayList<>();
        all.add(c);
        for (Class<?> d : c.getDeclaredClasses()) {
            all.addAll(withInside(d));
        }
        return all;
    }

    private static void classesInside(Class<?> whole) {
        List<Class<?>> all = withInside(whole);
        check.holds("at most twelve classes", all.size() <= 12);
        for (Class<?> c : all) {
            int fields = 0;
            for (Field f : c.getDeclaredFields()) {
                boolean fixed = Modifier.isStatic(f.getModifiers());
                check.holds(c + " " + f.getName() + " is final if static", !fixed || Modifier.isFinal(f.getModifiers()));
                fields += fixed ? 0 : 1;
            }
            check.holds(c + " has at most twenty fields", fields <= 20);
            int how = c.getModifiers();
            boolean hidden = !Modifier.isPublic(how) && !Modifier.isProtected(how) && Modifier.isStatic(how);
            check.holds(c + " is static and not public", c == whole || hidden);
        }
    }

    private static void source(String source) {
        String code = source.replaceAll("(?s)/\\*.*?\\*/", "").replaceAll("//[^\n]*", "");
        String[] never = {
            "throw", "throws", "try", "catch", "synchronized", "assert", "package", "protected", "Exact",
            "System\\.(?!arraycopy)", "Thread", "Random", "equals", "hashCode", "toString", "native", "volatile",
            "->", "::", "import (?!java\\.util\\.(Arrays|ArrayList|List|Iterator);)", "@",
        };
        for (String word : never) {
            String edged = word.matches("[a-zA-Z]+") && !word.equals("Exact") ? "\\b" + word + "\\b" : word;
            check.holds("no " + word, !Pattern.compile(edged).matcher(code).find());
        }
        for (int k = 0; k < source.length(); k++) {
            char c = source.charAt(k);
            if (c != '\n' && (c < 32 || c > 126)) {
                check.holds("sign " + (int) c + " at " + k, false);
            }
        }
        library(code);
        methodLengths(code);
    }

    /** Rule 4: of the library's classes only functions that it lists, so none of their constants. */
    private static void library(String code) {
        Set<String> listed = Set.of(
            "Math.min", "Math.max", "Math.abs", "Math.floorDiv", "Math.floorMod", "Integer.compare", "Long.compare",
            "Integer.bitCount", "Long.bitCount", "Arrays.copyOf", "Arrays.copyOfRange", "Arrays.fill",
            "System.arraycopy");
        Matcher m = Pattern.compile("\\b(Math|Integer|Long|Arrays|System|Short|Byte|Character)\\.(\\w+)(\\()?").matcher(code);
        int seen = 0;
        while (m.find()) {
            String name = m.group(1) + "." + m.group(2);
            check.holds(name + " is a function that the rules list", listed.contains(name) && m.group(3) != null);
            seen++;
        }
        check.holds("the library is seen", seen > 0);
    }

    /** A method begins with a line that ends with ') {' at the depth of a class's members. */
    private static void methodLengths(String code) {
        Pattern head = Pattern.compile("(?m)^( {4}| {8})(\\w[^=;\n]*\\) )\\{\n");
        Matcher m = head.matcher(code);
        Map<String, String> bodies = new TreeMap<>();
        while (m.find()) {
            if (!m.group(2).matches("(if|for|while|switch|else)\\b.*")) {
                int end = code.indexOf("\n" + m.group(1) + "}", m.end());
                String body = end < 0 ? "\n".repeat(999) : code.substring(m.end(), end + 1);
                long lines = body.lines().count();
                check.holds(m.group(2) + " has at most sixty lines: " + lines, lines <= 60);
                String name = m.group(2).replaceAll("\\(.*", "").replaceAll(".* ", "").strip();
                check.holds(name + " is the name of one method alone", bodies.put(name, body) == null);
            }
        }
        check.holds("methods are seen", bodies.size() > 60);
        for (String name : bodies.keySet()) {
            int deep = depth(name, bodies, 0);
            check.holds(name + " goes at most eight deep: " + deep, deep <= 8);
        }
    }

    /** How many calls stand open at most, its own counted; of a recursion, far too many. */
    private static int depth(String name, Map<String, String> bodies, int open) {
        int most = 0;
        Matcher m = Pattern.compile("\\b(\\w+)\\(").matcher(bodies.get(name));
        while (m.find() && open < 20) {
            if (bodies.containsKey(m.group(1))) {
                most = Math.max(most, depth(m.group(1), bodies, open + 1));
            }
        }
        return most + 1;
    }
}
