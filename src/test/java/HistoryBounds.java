import java.util.LinkedHashMap;
import java.util.List;
import java.util.Map;
import java.util.function.ToIntFunction;

/** Boundary cases of the history, of errors and of rounds: promises 11 to 14, and what all actions share. */
final class HistoryBounds extends Bounds {
    private static final Scene TWO_STATES = new Scene("two states", HistoryBounds::twoStates);

    /** Calls that succeed on a busy object, by their promises. */
    private final Map<Integer, ToIntFunction<PrivateLinkRouting>> actions = new LinkedHashMap<>();

    HistoryBounds(Check check, Sentences sentences) {
        super(check, sentences);
        actions.put(2, x -> x.addNode(3));
        actions.put(3, x -> x.addLink(3, 0, 20, 1));
        actions.put(4, x -> x.setLink(0, 0, 20));
        actions.put(5, x -> x.setGrant(0, 1, 0));
        actions.put(6, x -> x.addTunnel(1, 3, 40));
        actions.put(7, x -> x.setTunnel(0, 0, 40));
        actions.put(10, PrivateLinkRouting::load);
        actions.put(11, x -> x.step(1));
        actions.put(12, PrivateLinkRouting::settle);
    }

    @Override
    void run() {
        actions();
        otherCalls();
        fiveStates();
        whatAStateIs();
        undo();
        step();
        settle();
        roundsToQuiet();
        keptWay();
        errorsChangeNothing();
        firstError();
        noneIsNoError();
        constants();
    }

    private static PrivateLinkRouting twoStates() {
        PrivateLinkRouting x = Check.loaded("node 0;node 1;node 2;node 3;private 0 1 3;link 1 2 4;tunnel 0 2 6;");
        x.setGrant(0, 1, 1);
        Check.type(x, "node 1;");
        x.send(1, 2);
        return x;
    }

    private void actions() {
        actions.forEach((promise, action) -> {
            says(promise, "This is an action.");
            recorded(TWO_STATES, action);
            recorded(Scene.BUSY, action);
        });
        says(0, "Every successful call of a method that is called an action records the state before it;");
        PrivateLinkRouting x = new PrivateLinkRouting();
        dueAll("the first action", new int[] {x.addNode(0), x.count(5)}, 0, 1);
        dueAll("the second one", new int[] {x.addNode(0), x.count(5)}, 1, 2);
        dueAll("one that is refused", new int[] {x.addNode(4), x.count(5)}, INVALID, 2);
        dueAll("a load", new int[] {x.load(), x.count(5)}, 0, 3);
        dueAll("back to before the load", new int[] {x.undo(), x.count(0)}, 2, 2);
    }

    /** The state before is the latest one in the history; those before it are as they were. */
    private void recorded(Scene scene, ToIntFunction<PrivateLinkRouting> action) {
        taken(scene, "it", action);
        PrivateLinkRouting x = scene.make();
        int states = x.count(5);
        action.applyAsInt(x);
        due(scene.name() + ", states", x.count(5), Math.min(5, states + 1));
        due(scene.name() + ", the way is gone", x.way(-1), ILLEGAL);
        for (int undos = 0; undos < Math.min(5, states + 1); undos++) {
            int times = undos;
            List<String> got = Looks.atNetwork(Looks.after(scene::make, y -> {
                action.applyAsInt(y);
                undo(y, times + 1);
            }));
            List<String> want = Looks.atNetwork(Looks.after(scene::make, y -> undo(y, times)));
            dueSame(scene.name() + ", undone " + (undos + 1) + " times", got, want);
        }
    }

    private static void undo(PrivateLinkRouting x, int times) {
        for (int i = 0; i < times; i++) {
            x.undo();
        }
    }

    private void otherCalls() {
        says(0, "Every successful call of a method that is called an action records the state before it;");
        unchanged(Scene.BUSY, "roundsToQuiet", PrivateLinkRouting::roundsToQuiet);
        unchanged(Scene.BUSY, "outcomes", x -> x.outcomes(0));
        unchanged(Scene.BUSY, "ideal", x -> x.ideal(0, 3));
        unchanged(Scene.BUSY, "worth", x -> x.worth(0, 1));
        unchanged(Scene.BUSY, "distance", x -> x.distance(3, 0, 1));
        unchanged(Scene.BUSY, "next", x -> x.next(3, 0, 1, 1));
        unchanged(Scene.BUSY, "the same packet again", x -> x.send(2, 0));
        unchanged(Scene.BUSY, "way", x -> x.way(1));
        unchanged(Scene.BUSY, "known", x -> x.known(1, 16, 2));
        for (int what = 0; what < 7; what++) {
            int which = what;
            unchanged(Scene.BUSY, "looks " + what, x -> x.count(which) + x.node(1, which) + x.link(1, which)
                + x.tunnel(1, which) + x.grant(0, 1, which));
        }
        PrivateLinkRouting y = Scene.BUSY.make();
        y.send(3, 0);
        y.append('x');
        y.clearText();
        due("send, append and clearText", y.count(5), 5);
        due("none of them is undone", y.undo(), 4);
        due("but the grant is", y.grant(2, 3, 0), 0);
    }

    private void fiveStates() {
        says(0, "A history of at most 5 states is kept;");
        PrivateLinkRouting x = new PrivateLinkRouting();
        for (int i = 1; i <= 7; i++) {
            x.addNode(i % 4);
            due("states after " + i + " actions", x.count(5), Math.min(i, 5));
        }
        PrivateLinkRouting five = new PrivateLinkRouting();
        for (int i = 0; i < 5; i++) {
            five.addNode(0);
        }
        undo(five, 5);
        due("five actions: all are undone", five.count(0), 0);

        says(0, "when a sixth one is recorded, the oldest one is dropped.");
        PrivateLinkRouting six = new PrivateLinkRouting();
        for (int i = 0; i < 6; i++) {
            six.addNode(0);
        }
        undo(six, 5);
        due("six actions: five are undone", six.count(0), 1);
        due("no more", six.undo(), ILLEGAL);
        six.addNode(2);
        due("one state again", six.count(5), 1);
        due("undone", six.undo(), 0);
        due("nodes", six.count(0), 1);
    }

    private void whatAStateIs() {
        says(0, "a state is everything but the text, the history and the way of the latest packet.");
        PrivateLinkRouting x = Check.settled("node 0;node 1;link 0 1 3;");
        int messages = x.count(4);
        x.setLink(0, 1, 4);
        x.settle();
        Check.type(x, "node 2;");
        x.send(0, 1);
        due("undo", x.undo(), 3);
        due("the text is as it was", x.count(6), 7);
        due("no way comes back", x.way(0), ILLEGAL);
        due("the messages are as before", x.count(4), messages);
        due("undo", x.undo(), 2);
        due("the text still", x.load(), 1);
        due("undo brings back no text", x.undo() + x.count(6), 2);
    }

    private void undo() {
        says(0, "undo() removes the latest state from the history and restores it.");
        says(14, "Removes the latest state from the history and restores it.");
        PrivateLinkRouting x = new PrivateLinkRouting();
        for (int area = 0; area < 4; area++) {
            x.addNode(area);
        }
        x.undo();
        x.undo();
        x.addNode(3);
        dueAll("the states that are left", new int[] {x.count(0), x.node(2, 0), x.count(5)}, 3, 3, 3);
        x.undo();
        dueAll("the state before", new int[] {x.count(0), x.node(2, 0), x.count(5)}, 2, INVALID, 2);

        says(14, "Returns the number of states that are left in the history;");
        PrivateLinkRouting y = Scene.BUSY.make();
        dueAll("from five to none", new int[] {y.undo(), y.undo(), y.undo(), y.undo(), y.undo()}, 4, 3, 2, 1, 0);

        says(14, "ILLEGAL_STATE if it is empty.");
        refused(Scene.NEW, ILLEGAL, "a new object", PrivateLinkRouting::undo);
        Scene emptied = Scene.FULL.after("all undone", z -> {
            undo(z, 5);
            z.send(1, 4);
        });
        refused(emptied, ILLEGAL, "one more", PrivateLinkRouting::undo);
    }

    private void step() {
        says(11, "rounds: 1 to 40");
        range(Scene.BUSY, 1, 40, PrivateLinkRouting::step);
        says(11, "Lets rounds pass.");
        PrivateLinkRouting x = Check.loaded("node 0;node 0;node 0;node 0;link 0 1 1;link 1 2 1;link 2 3 1;");
        x.step(1);
        due("one round", x.roundsToQuiet(), 2);
        x.undo();
        x.step(2);
        due("two rounds", x.roundsToQuiet(), 1);

        says(11, "Returns the number of messages that are sent in them (in rounds in which the network is quiet");
        // First links 0; 0, 1; 1, 2; 2 are news, then 1; 2; 0; 1, then 2 and 0; inner nodes send over two links.
        int[] messages = {10, 16, 18, 18, 18};
        for (int rounds = 1; rounds <= 5; rounds++) {
            x.undo();
            due("rounds " + rounds, x.step(rounds), messages[rounds - 1]);
            due("in all", x.count(4), messages[rounds - 1]);
        }
        x.undo();
        due("rounds 40", x.step(40), 18);
        PrivateLinkRouting alone = Check.loaded("node 0;node 0;tunnel 0 1 1;");
        due("no link, no messages", alone.step(40), 0);

        says(11, "INVALID_ARGUMENT if rounds is out of range;");
        refused(Scene.QUIET, INVALID, "no round, and quiet", y -> y.step(0));
        refused(Scene.QUIET, INVALID, "too many rounds, and quiet", y -> y.step(41));
        refused(Scene.NEW, INVALID, "less than no round, and quiet", y -> y.step(-1));
        says(11, "ILLEGAL_STATE if the network is quiet before the first one.");
        refused(Scene.QUIET, ILLEGAL, "one round", y -> y.step(1));
        refused(Scene.QUIET, ILLEGAL, "most rounds", y -> y.step(40));
        refused(Scene.NEW, ILLEGAL, "a new object", y -> y.step(1));
        due("quiet after the step before", x.step(1), ILLEGAL);
    }

    private void settle() {
        says(12, "Lets rounds pass until the network is quiet.");
        PrivateLinkRouting x = Scene.BUSY.make();
        due("rounds that are left", x.roundsToQuiet() > 1 ? 1 : 0, 1);
        x.settle();
        due("no round is left", x.roundsToQuiet(), 0);
        for (int node = 0; node < 4; node++) {
            due("news of node " + node, x.node(node, 2), 0);
        }
        says(12, "Returns the number of rounds;");
        for (int nodes = 2; nodes <= 10; nodes++) {
            due("a line of " + nodes, line(nodes).settle(), nodes - 1);
        }
        due("no link", Check.loaded("node 0;node 0;tunnel 0 1 1;").settle(), 1);
        says(12, "ILLEGAL_STATE if the network is quiet already.");
        refused(Scene.QUIET, ILLEGAL, "quiet", PrivateLinkRouting::settle);
        refused(Scene.NEW, ILLEGAL, "a new object", PrivateLinkRouting::settle);
    }

    private static PrivateLinkRouting line(int nodes) {
        PrivateLinkRouting x = new PrivateLinkRouting();
        for (int node = 0; node < nodes; node++) {
            x.addNode(0);
        }
        for (int link = 0; link < nodes - 1; link++) {
            x.addLink(link, link + 1, 20, 0);
        }
        return x;
    }

    private void roundsToQuiet() {
        says(13, "Tells how many rounds settle() would take, without changing anything.");
        for (int nodes = 2; nodes <= 10; nodes++) {
            due("a line of " + nodes, line(nodes).roundsToQuiet(), nodes - 1);
        }
        unchanged(Scene.BUSY, "roundsToQuiet", PrivateLinkRouting::roundsToQuiet);
        unchanged(Scene.FULL, "roundsToQuiet", PrivateLinkRouting::roundsToQuiet);
        says(13, "Returns the number of rounds;");
        due("as settle does", Scene.BUSY.make().roundsToQuiet(), Scene.BUSY.make().settle());
        says(13, "0 if the network is quiet.");
        due("quiet", Scene.QUIET.make().roundsToQuiet(), 0);
        due("a new object", new PrivateLinkRouting().roundsToQuiet(), 0);
    }

    private void keptWay() {
        says(23, "Sends a packet, and keeps its way until the next call of send(), of an action or of undo() that");
        PrivateLinkRouting x = Scene.BUSY.make();
        due("kept", x.way(0), 2);
        due("another packet", x.send(1, 2), 0);
        due("its way in place of the first one's", x.way(0), 1);
        due("a packet that is refused", x.send(4, 2), INVALID);
        due("the way is kept", x.way(0), 1);
        due("a packet to its own node", x.send(2, 2), INVALID);
        due("the way is kept still", x.way(0), 1);
        due("typing", x.append(';') + x.clearText(), 25 + 25);
        due("keeps it, too", x.way(1), 2);
        due("undo", x.undo(), 4);
        due("the way is gone", x.way(0), ILLEGAL);
        due("a packet that is refused", x.send(0, 0), INVALID);
        due("keeps none", x.way(0), ILLEGAL);
        actions.forEach((promise, action) -> {
            PrivateLinkRouting y = Scene.BUSY.make();
            action.applyAsInt(y);
            due("after the action of promise " + promise, y.way(0), ILLEGAL);
        });
    }

    private void errorsChangeNothing() {
        says(0, "A call that returns an error code changes nothing.");
        Scene wrong = Scene.BUSY.after("a wrong text", x -> x.append('?'));
        refused(wrong, -10 - Scene.BUSY_TEXT.length(), "load", PrivateLinkRouting::load);
        refused(Scene.BUSY, INVALID, "send to itself", x -> x.send(2, 2));
        refused(Scene.BUSY, INVALID, "send to nobody", x -> x.send(0, 4));
        refused(Scene.BUSY, INVALID, "append nothing", x -> x.append(0));
        refused(Scene.FULL, NO_ROOM, "append too much", x -> x.append('x'));
        refused(Scene.QUIET, ILLEGAL, "settle", PrivateLinkRouting::settle);
        refused(Scene.BUSY, ILLEGAL, "set as it is", x -> x.setLink(2, 1, 5));
        refused(Scene.FULL, NO_ROOM, "addNode", x -> x.addNode(0));
    }

    private void firstError() {
        says(0, "If several error conditions apply, the method returns the one that its description lists first;");
        refused(Scene.FULL, INVALID, "addNode: no area before no room", x -> x.addNode(-1));
        refused(Scene.FULL, INVALID, "addLink: no node before no room", x -> x.addLink(-1, 0, 1, 0));
        refused(Scene.FULL, INVALID, "addTunnel: no node before no room", x -> x.addTunnel(0, -1, 1));
        refused(Scene.FULL, INVALID, "append: no character before no room", x -> x.append(256));
        refused(Scene.BUSY, INVALID, "setGrant: the same area before being off already", x -> x.setGrant(3, 3, 0));
        refused(Scene.QUIET, INVALID, "step: too many rounds before being quiet", x -> x.step(41));
        refused(TWO_STATES, INVALID, "addLink: all is wrong", x -> x.addLink(9, 9, 0, 2));
        refused(Scene.NEW, INVALID, "way: no index before no way", x -> x.way(-3));
    }

    private void noneIsNoError() {
        says(0, "NONE is no error, and it is returned only if no error condition applies.");
        refused(TWO_STATES, NONE, "known: no fact", x -> x.known(3, 16, 1));
        refused(TWO_STATES, INVALID, "known: no fact, and no such what", x -> x.known(3, 16, 4));
        refused(TWO_STATES, NONE, "distance: no path", x -> x.distance(3, 0, 0));
        refused(TWO_STATES, INVALID, "distance: no path, and no such area", x -> x.distance(3, 0, 4));
        refused(TWO_STATES, NONE, "next: no path", x -> x.next(3, 0, 0, 1));
        refused(TWO_STATES, INVALID, "next: no path, and no such part", x -> x.next(3, 0, 0, 2));
        refused(TWO_STATES, NONE, "way: no such node", x -> x.way(2));
        refused(Scene.NEW, ILLEGAL, "way: no way at all", x -> x.way(2));
        refused(TWO_STATES, NONE, "ideal: no way", x -> x.ideal(3, 0));
        refused(TWO_STATES, INVALID, "ideal: no such node", x -> x.ideal(3, 4));
    }

    private void constants() {
        says(0, "INVALID_ARGUMENT = -1: An argument is out of range, or names something that does not exist.");
        due("the constant", PrivateLinkRouting.INVALID_ARGUMENT, -1);
        due("no such node", Scene.BUSY.make().node(4, 0), -1);
        says(0, "ILLEGAL_STATE = -2: The call is not possible in the present state.");
        due("the constant", PrivateLinkRouting.ILLEGAL_STATE, -2);
        due("nothing to undo", new PrivateLinkRouting().undo(), -2);
        says(0, "CAPACITY_EXCEEDED = -3: There is no room.");
        due("the constant", PrivateLinkRouting.CAPACITY_EXCEEDED, -3);
        due("no room", Scene.FULL.make().addNode(0), -3);
        says(0, "NONE = -9: There is no such value.");
        due("the constant", PrivateLinkRouting.NONE, -9);
        due("no such node of the way", Scene.BUSY.make().way(21), -9);
    }
}
