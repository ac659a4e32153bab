import com.sun.management.ThreadMXBean;
import java.lang.management.ManagementFactory;

/** The room: no call makes an object, so that only new RenameGraphs take any. */
public final class RoomTest {
    private static final Check check = new Check("RoomTest");

    public static void main(String[] args) {
        ThreadMXBean room = (ThreadMXBean) ManagementFactory.getThreadMXBean();
        long self = Thread.currentThread().getId();
        RenameGraph x = new RenameGraph();
        use(x);
        check.due("the text that is used has no fault", told(x), RenameGraph.NONE);
        long before = room.getThreadAllocatedBytes(self);
        long idle = room.getThreadAllocatedBytes(self) - before;
        before = room.getThreadAllocatedBytes(self);
        long sum = 0;
        for (int k = 0; k < 50; k++) {
            sum += use(x);
        }
        long taken = room.getThreadAllocatedBytes(self) - before - idle;
        check.holds("room taken by calls: " + taken + " (" + sum + ")", taken < 4096);
        before = room.getThreadAllocatedBytes(self);
        new RenameGraph();
        long made = room.getThreadAllocatedBytes(self) - before;
        check.holds("room taken by an object: " + made, made < 32000);
        check.end();
    }

    /** Tells a text of 49 nodes and ten scopes, and answers its fault. */
    private static int told(RenameGraph x) {
        x.wipe();
        for (int k = 0; k < 9; k++) {
            x.type('{');
            x.type('+');
            x.type('a' + k);
            x.type('a');
            x.type('b');
            x.type('c');
        }
        for (int k = 0; k < 9; k++) {
            x.type('}');
        }
        for (int k = 0; k < 12; k++) {
            x.type('+');
            x.type('c' + k);
        }
        x.type('^');
        x.type('d');
        return x.fault();
    }

    /** Each call of the face. */
    private static long use(RenameGraph x) {
        long sum = told(x) + x.type('e') + x.undo() + x.shown(3);
        sum += x.sheet(0, 2, 60) + x.sheet(1, 2, 60) + x.put(0, 2, 3, 4) + x.get(0, 2, 3) + x.copy(0, 1, 1, 2, 3);
        sum += x.write(0) + x.node(3, 4) + x.scope(1, 2) + x.bound(1) + x.own(3, 'a') + x.family(0) + x.uses(0);
        sum += x.hides(4) + x.idle() + x.plan(0, 'b', 0) + x.edits(0, 'c', 2) + x.caught(0, 'b', 0) + x.easy(0);
        for (int k = 0; k < 25; k++) {
            sum += x.rename(0, 'a' + k);
        }
        sum += x.back() + x.digest() + x.count(5) + x.read(1) + x.lose(1) + x.lose(1) + x.sheet(2, 1, -1);
        return sum;
    }
}
