import com.sun.management.ThreadMXBean;
import java.lang.management.ManagementFactory;

/** All calls of a run live in one room: an object is small, and no call makes anything. */
public final class RoomTest {
    private static final ThreadMXBean THREADS = (ThreadMXBean) ManagementFactory.getThreadMXBean();

    public static void main(String[] args) {
        Check check = new Check("RoomTest");
        PrivateLinkRouting first = new PrivateLinkRouting();
        callAll(first);
        long start = allocated();
        PrivateLinkRouting second = new PrivateLinkRouting();
        long made = allocated();
        callAll(second);
        long called = allocated();
        check.due("bytes of an object are less than 40000, being " + (made - start), made - start < 40000 ? 1 : 0, 1);
        // A thousand bytes are left to the machine itself: one object for each call would be far more.
        check.due("bytes that calls make are less than 1000, being " + (called - made), called - made < 1000 ? 1 : 0, 1);
        check.end();
    }

    private static long allocated() {
        return THREADS.getThreadAllocatedBytes(Thread.currentThread().getId());
    }

    private static void callAll(PrivateLinkRouting x) {
        String text = "node 0;node 1;node 2;node 0;link 0 1 3;private 1 2 4;link 2 3 1;tunnel 0 2 2;grant 1 0;";
        Check.type(x, text);
        x.load();
        x.settle();
        for (int i = 0; i < 10; i++) {
            x.addNode(i % 4);
            x.addLink(i % 4, 3 - i % 4, 5, i % 2);
            x.addTunnel(i % 2, 2, 1);
            x.setLink(0, i % 2, 2);
            x.setTunnel(0, i % 2, 2);
            x.setGrant(0, 2, 1 - i % 2);
            x.roundsToQuiet();
            x.step(1);
            x.settle();
            x.undo();
            lookAtAll(x);
        }
        x.append('x');
        x.load();
        x.clearText();
    }

    private static void lookAtAll(PrivateLinkRouting x) {
        for (int what = 0; what < 7; what++) {
            x.count(what);
            x.node(1, what);
            x.link(1, what);
            x.tunnel(0, what);
            x.grant(1, 0, what);
            x.known(1, 17, what);
            x.outcomes(what);
        }
        x.distance(0, 3, 0);
        x.next(0, 3, 0, 1);
        x.send(0, 3);
        x.way(1);
        x.ideal(0, 3);
        x.worth(1, 0);
    }
}
