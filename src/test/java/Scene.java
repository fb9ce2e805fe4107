import java.util.List;
import java.util.function.Consumer;
import java.util.function.Supplier;

/** An object as it is after the same calls each time; a new one is made for each test. */
final class Scene {
    /** No calls at all. */
    static final Scene NEW = new Scene("a new object", PrivateLinkRouting::new);
    /** Four nodes, three links, two tunnels and two grants; there is news, a text, a way and a full history. */
    static final Scene BUSY = new Scene("busy", () -> withTextAndWay(busy()));
    /** The same, settled. */
    static final Scene QUIET = new Scene("quiet", () -> withTextAndWay(quiet()));
    /** No room for anything. */
    static final Scene FULL = new Scene("full", Scene::full);

    static final String BUSY_TEXT = "node 3;node 2;grant 1 2;";
    static final String FULL_TEXT = "node 0;".repeat(10) + " ".repeat(50);

    private final String name;
    private final Supplier<PrivateLinkRouting> calls;
    private List<String> seen = null;

    Scene(String name, Supplier<PrivateLinkRouting> calls) {
        this.name = name;
        this.calls = calls;
    }

    /** The same calls, and then some more. */
    Scene after(String what, Consumer<PrivateLinkRouting> call) {
        return new Scene(name + ", " + what, Looks.after(calls, call));
    }

    String name() {
        return name;
    }

    PrivateLinkRouting make() {
        return calls.get();
    }

    /** What can be seen in it; it is looked at once only. */
    List<String> seen() {
        if (seen == null) {
            seen = Looks.atAll(calls);
        }
        return seen;
    }

    private static PrivateLinkRouting busy() {
        PrivateLinkRouting x = Check.settled(
            "node 0;node 1;node 1;node 2;private 0 1 3;link 1 2 4;link 2 3 5;tunnel 0 2 6;grant 0 1;");
        x.setLink(1, 1, 7);
        x.addTunnel(3, 0, 2);
        x.setGrant(2, 3, 1);
        return x;
    }

    private static PrivateLinkRouting quiet() {
        PrivateLinkRouting x = busy();
        x.settle();
        return x;
    }

    private static PrivateLinkRouting withTextAndWay(PrivateLinkRouting x) {
        Check.type(x, BUSY_TEXT);
        x.send(2, 0);
        return x;
    }

    private static PrivateLinkRouting full() {
        PrivateLinkRouting x = new PrivateLinkRouting();
        for (int node = 0; node < 10; node++) {
            x.addNode(node % 4);
        }
        for (int link = 0; link < 16; link++) {
            x.addLink(link % 10, (link + 1 + link / 10) % 10, link + 1, link / 10);
        }
        for (int tunnel = 0; tunnel < 3; tunnel++) {
            x.addTunnel(9 - tunnel, tunnel, 38 + tunnel);
        }
        for (int item = 0; item < 16; item++) {
            x.setGrant(item / 4, item % 4, 1);
        }
        x.settle();
        Check.type(x, FULL_TEXT);
        x.send(0, 5);
        return x;
    }
}
