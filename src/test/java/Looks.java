import java.util.ArrayList;
import java.util.List;
import java.util.function.Consumer;
import java.util.function.Supplier;

/** All that calls can tell of an object, so that two objects can be compared. */
final class Looks {
    /** So few looks for each object that it stays below the 512 calls for which the document speaks. */
    private static final int LOOKS_PER_OBJECT = 200;

    private final Supplier<PrivateLinkRouting> calls;
    private final List<String> seen = new ArrayList<>();
    private PrivateLinkRouting x = null;
    private int looks = 0;

    private Looks(Supplier<PrivateLinkRouting> calls) {
        this.calls = calls;
    }

    /** The network as it is, without what the history, the text and the way are. */
    static List<String> atNetwork(Supplier<PrivateLinkRouting> calls) {
        Looks all = new Looks(calls);
        PrivateLinkRouting x = calls.get();
        all.lookAtThings(x);
        all.lookAtKnowledge(x);
        all.lookAtPaths(x);
        return all.seen;
    }

    /** The network, the way, each state of the history, and what the text would load. */
    static List<String> atAll(Supplier<PrivateLinkRouting> calls) {
        List<String> seen = new ArrayList<>();
        int states = calls.get().count(5);
        seen.add("states " + states);
        seen.add("length of the text " + calls.get().count(6));
        for (int undos = 0; undos <= states; undos++) {
            int times = undos;
            seen.add("after " + undos + " undos");
            seen.addAll(atNetworkAndWay(after(calls, x -> repeatUndo(x, times))));
        }
        seen.add("load " + calls.get().load());
        seen.addAll(atNetworkAndWay(after(calls, PrivateLinkRouting::load)));
        return seen;
    }

    static Supplier<PrivateLinkRouting> after(Supplier<PrivateLinkRouting> calls, Consumer<PrivateLinkRouting> call) {
        return () -> {
            PrivateLinkRouting x = calls.get();
            call.accept(x);
            return x;
        };
    }

    private static void repeatUndo(PrivateLinkRouting x, int times) {
        for (int i = 0; i < times; i++) {
            x.undo();
        }
    }

    private static List<String> atNetworkAndWay(Supplier<PrivateLinkRouting> calls) {
        List<String> seen = atNetwork(calls);
        PrivateLinkRouting x = calls.get();
        for (int index = -2; index <= 21; index++) {
            seen.add("way " + index + " = " + x.way(index));
        }
        return seen;
    }

    /** The object to ask next: a new one if the one before has answered enough. */
    private PrivateLinkRouting eye() {
        if (looks % LOOKS_PER_OBJECT == 0) {
            x = calls.get();
        }
        looks++;
        return x;
    }

    private void see(int answer, String what, int... arguments) {
        StringBuilder line = new StringBuilder(what);
        for (int argument : arguments) {
            line.append(' ').append(argument);
        }
        seen.add(line.append(" = ").append(answer).toString());
    }

    private void lookAtThings(PrivateLinkRouting size) {
        for (int what = 0; what < 5; what++) {
            see(eye().count(what), "count", what);
        }
        for (int link = 0; link < size.count(1); link++) {
            for (int what = 0; what < 6; what++) {
                see(eye().link(link, what), "link", link, what);
            }
        }
        for (int tunnel = 0; tunnel < size.count(2); tunnel++) {
            for (int what = 0; what < 5; what++) {
                see(eye().tunnel(tunnel, what), "tunnel", tunnel, what);
            }
        }
        for (int item = 0; item < 16; item++) {
            see(eye().grant(item / 4, item % 4, 0), "grant", item / 4, item % 4, 0);
            see(eye().grant(item / 4, item % 4, 1), "grant", item / 4, item % 4, 1);
            see(eye().worth(item / 4, item % 4), "worth", item / 4, item % 4);
        }
        for (int result = 0; result < 5; result++) {
            see(eye().outcomes(result), "outcomes", result);
        }
        see(eye().roundsToQuiet(), "roundsToQuiet");
    }

    private void lookAtKnowledge(PrivateLinkRouting size) {
        for (int node = 0; node < size.count(0); node++) {
            for (int what = 0; what < 5; what++) {
                see(eye().node(node, what), "node", node, what);
            }
            for (int item = 0; item < 35; item++) {
                for (int what = 0; what < 4; what++) {
                    see(eye().known(node, item, what), "known", node, item, what);
                }
            }
        }
    }

    private void lookAtPaths(PrivateLinkRouting size) {
        for (int node = 0; node < size.count(0); node++) {
            for (int to = 0; to < size.count(0); to++) {
                see(eye().ideal(node, to), "ideal", node, to);
                for (int area = 0; area < 4; area++) {
                    see(eye().distance(node, to, area), "distance", node, to, area);
                    see(eye().next(node, to, area, 0), "next", node, to, area, 0);
                    see(eye().next(node, to, area, 1), "next", node, to, area, 1);
                }
            }
        }
    }
}
