import java.util.ArrayList;
import java.util.List;
import java.util.function.Consumer;

/**
 * All that an object with a given past tells of itself, but for the latest
 * finding. Some of it can only be asked by calls that change the object, and
 * an object is good for 512 calls: so each part is asked of a new one.
 */
final class State {
    private final Consumer<RenameGraph> past;
    private final List<String> told = new ArrayList<>();

    private State(Consumer<RenameGraph> past) {
        this.past = past;
    }

    /** What two pasts lead to that is not alike, or an empty text. */
    static String unlike(Consumer<RenameGraph> one, Consumer<RenameGraph> other) {
        List<String> first = of(one);
        List<String> second = of(other);
        for (int k = 0; k < first.size() && k < second.size(); k++) {
            if (!first.get(k).equals(second.get(k))) {
                return second.get(k) + " that was " + first.get(k);
            }
        }
        return first.size() == second.size() ? "" : "a state of another size";
    }

    static List<String> of(Consumer<RenameGraph> past) {
        State s = new State(past);
        RenameGraph x = s.made();
        s.whole(x);
        for (int i = 0; i < x.count(1); i++) {
            s.node(i);
        }
        s.scopes();
        for (int row = 0; row < 4; row++) {
            s.sheet(row);
        }
        for (int steps = 1; steps <= x.count(7) + 1; steps++) {
            s.known(steps);
        }
        return s.told;
    }

    private RenameGraph made() {
        RenameGraph x = new RenameGraph();
        past.accept(x);
        return x;
    }

    private void tell(String call, long answer) {
        told.add(call + " = " + answer);
    }

    private void whole(RenameGraph x) {
        for (int what = 0; what <= 7; what++) {
            tell("count(" + what + ")", x.count(what));
        }
        tell("fault()", x.fault());
        for (int i = 0; i < 100; i++) {
            tell("shown(" + i + ")", x.shown(i));
        }
        tell("idle()", x.idle());
        tell("digest()", x.digest());
    }

    private void node(int i) {
        RenameGraph x = made();
        for (int what = 0; what <= 4; what++) {
            tell("node(" + i + ", " + what + ")", x.node(i, what));
        }
        tell("bound(" + i + ")", x.bound(i));
        tell("family(" + i + ")", x.family(i));
        tell("uses(" + i + ")", x.uses(i));
        tell("hides(" + i + ")", x.hides(i));
        tell("easy(" + i + ")", x.easy(i));
        for (char name = 'a'; name <= 'z'; name++) {
            String with = "(" + i + ", " + name + ", ";
            for (int plan = 0; plan <= 2; plan++) {
                tell("edits" + with + plan + ")", x.edits(i, name, plan));
            }
            tell("caught" + with + "0)", x.caught(i, name, 0));
            tell("caught" + with + "1)", x.caught(i, name, 1));
        }
    }

    private void scopes() {
        RenameGraph x = made();
        for (int s = 0; s < x.count(2); s++) {
            for (int what = 0; what <= 3; what++) {
                tell("scope(" + s + ", " + what + ")", x.scope(s, what));
            }
            for (char name = 'a'; name <= 'z'; name++) {
                tell("own(" + s + ", " + name + ")", x.own(s, name));
            }
        }
    }

    /** The finding of a get() tells whether it is lost, and whether it has a form. */
    private void sheet(int s) {
        tell("lose(" + s + ")", made().lose(s));
        RenameGraph x = made();
        for (int form = 0; form <= 2; form++) {
            x.get(s, form, -1);
            tell("finding of get(" + s + ", " + form + ", -1)", x.count(8));
            for (int i = 0; i < 60; i++) {
                tell("get(" + s + ", " + form + ", " + i + ")", x.get(s, form, i));
            }
        }
    }

    private void known(int steps) {
        RenameGraph x = made();
        int left = 0;
        for (int k = 0; k < steps; k++) {
            left = x.back();
        }
        tell("back() number " + steps, left);
        told.add("text behind " + steps + " back() = " + Check.textOf(x));
    }
}
