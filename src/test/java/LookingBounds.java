/** Boundary cases of looking: promises 15 to 20. */
final class LookingBounds extends Bounds {
    private static final int[] NO_FACT = {0, NONE, NONE, 0};

    LookingBounds(Check check, Sentences sentences) {
        super(check, sentences);
    }

    @Override
    void run() {
        count();
        node();
        behind();
        secrets();
        link();
        tunnel();
        grant();
        known();
        knownItems();
    }

    /** The answers for 0, 1 and so on. */
    private static int[] answers(int number, java.util.function.IntUnaryOperator call) {
        int[] answers = new int[number];
        for (int what = 0; what < number; what++) {
            answers[what] = call.applyAsInt(what);
        }
        return answers;
    }

    private void count() {
        says(15, "what: 0 the number of nodes, 1 of links, 2 of tunnels, 3 of grants that are on, 4 of messages");
        range(Scene.BUSY, 0, 6, PrivateLinkRouting::count);
        range(Scene.NEW, 0, 6, PrivateLinkRouting::count);
        says(15, "Returns a number.");
        PrivateLinkRouting x = Check.loaded("node 0;node 1;node 2;node 3;link 0 1 1;link 1 2 1;tunnel 0 1 1;");
        for (int area = 1; area < 4; area++) {
            x.setGrant(0, area, 1);
        }
        Check.type(x, "abcdef");
        // Node 0 has three grants, a tunnel and a link, 1 two links, 2 one link; node 1 sends over two links.
        due("messages of a round", x.step(1), 5 + 4 + 1);
        dueAll("all", answers(7, x::count), 4, 2, 1, 3, 10, 5, 6);
        says(15, "Returns the number;");
        dueAll("nothing yet", answers(7, new PrivateLinkRouting()::count), 0, 0, 0, 0, 0, 0, 0);
        PrivateLinkRouting full = Scene.FULL.make();
        int messages = full.count(4);
        dueAll("no more room", answers(7, full::count), 10, 16, 3, 12, messages, 5, 120);
        says(15, "INVALID_ARGUMENT if what is out of range.");
        refused(Scene.FULL, INVALID, "7", y -> y.count(7));
        refused(Scene.FULL, INVALID, "-1", y -> y.count(-1));
    }

    private void node() {
        says(16, "node: a node");
        range(Scene.BUSY, 0, 3, (x, node) -> x.node(node, 1));
        range(Scene.FULL, 0, 9, (x, node) -> x.node(node, 0));
        says(16, "what: 0 its area, 1 the number of facts in its database, 2 the number of items that are news in it,");
        range(Scene.BUSY, 0, 4, (x, what) -> x.node(3, what));
        says(16, "Returns a property of a node.");
        PrivateLinkRouting x = Scene.BUSY.make();
        // Node 3 knows links 1 (an old fact) and 2, both tunnels and both grants; tunnel 1 and a grant are news.
        dueAll("node 3", answers(5, what -> x.node(3, what)), 2, 6, 2, 1, 0);
        says(16, "Returns the property;");
        PrivateLinkRouting y = Check.loaded("node 3;");
        dueAll("a node alone", answers(5, what -> y.node(0, what)), 3, 0, 0, 0, 0);
        PrivateLinkRouting full = Scene.FULL.make();
        dueAll("a node that knows all", answers(5, what -> full.node(9, what)), 1, 31, 0, 0, 0);
        says(16, "INVALID_ARGUMENT if there is no such node or what is out of range.");
        refused(Scene.NEW, INVALID, "no node at all", z -> z.node(0, 0));
        refused(Scene.BUSY, INVALID, "both are wrong", z -> z.node(4, 5));
    }

    private void behind() {
        says(16, "3 the number of items behind: those with a version greater than the known one that are no private");
        PrivateLinkRouting x = Check.settled("node 0;node 1;node 1;node 0;private 0 1 2;link 1 2 1;link 1 0 9;");
        due("a private link to which it is not entitled", x.node(2, 3), 0);
        due("all links, for a node alone of the owner's area", x.node(3, 3), 3);
        x.setGrant(0, 1, 1);
        due("the grant is behind, and the link by the grant itself", x.node(2, 3), 2);
        due("the grant alone, at the link's end", x.node(1, 3), 1);
        x.settle();
        due("the same version is not behind", x.node(2, 3), 0);
        x.setLink(0, 1, 3);
        due("one version more is", x.node(2, 3), 1);
        x.setLink(0, 1, 4);
        due("two versions more are the same item", x.node(2, 3), 1);
        x.setGrant(0, 1, 0);
        due("not entitled any more: the grant alone", x.node(2, 3), 1);
        x.setTunnel(x.addTunnel(0, 1, 1), 0, 1);
        due("a tunnel, too", x.node(2, 3), 2);
    }

    private void secrets() {
        says(16, "4 the number of secrets: private links in its database of which it is no end and to which its area");
        PrivateLinkRouting x = Check.settled(
            "node 0;node 1;node 1;node 2;private 0 1 2;private 0 1 3;link 1 2 1;link 0 3 1;grant 0 1;grant 0 2;");
        dueAll("entitled", answers(4, node -> x.node(node, 4)), 0, 0, 0, 0);
        x.setGrant(0, 1, 0);
        dueAll("the owner, an end, its area, another area", answers(4, node -> x.node(node, 4)), 0, 0, 2, 0);
        due("secrets are known", x.known(2, 16, 0) + x.known(2, 17, 0), 2);
        x.settle();
        dueAll("forgotten", answers(4, node -> x.node(node, 4)), 0, 0, 0, 0);
    }

    private void link() {
        says(17, "link: a link");
        range(Scene.BUSY, 0, 2, (x, link) -> x.link(link, 2));
        range(Scene.FULL, 0, 15, (x, link) -> x.link(link, 5));
        says(17, "what: 0 its first end, 1 its second end, 2 its cost, 3 1 if it is up and 0 if it is down, 4 1 if it");
        range(Scene.BUSY, 0, 5, (x, what) -> x.link(1, what));
        says(17, "Returns a property of a link.");
        PrivateLinkRouting x = Check.loaded("node 0;node 0;node 0;node 0;node 0;private 4 3 20;link 2 4 1;");
        dueAll("private, up", answers(6, what -> x.link(0, what)), 4, 3, 20, 1, 1, 1);
        dueAll("public, up", answers(6, what -> x.link(1, what)), 2, 4, 1, 1, 0, 1);
        says(17, "Returns the property;");
        x.setLink(1, 0, 20);
        x.setLink(0, 0, 1);
        x.setLink(0, 0, 2);
        dueAll("public, down", answers(6, what -> x.link(1, what)), 2, 4, 20, 0, 0, 2);
        dueAll("private, down", answers(6, what -> x.link(0, what)), 4, 3, 2, 0, 1, 3);
        says(17, "INVALID_ARGUMENT if there is no such link or what is out of range.");
        refused(Scene.NEW, INVALID, "no link at all", y -> y.link(0, 0));
        refused(Scene.BUSY, INVALID, "both are wrong", y -> y.link(3, 6));
    }

    private void tunnel() {
        says(18, "tunnel: a tunnel");
        range(Scene.BUSY, 0, 1, (x, tunnel) -> x.tunnel(tunnel, 2));
        range(Scene.FULL, 0, 2, (x, tunnel) -> x.tunnel(tunnel, 4));
        says(18, "what: 0 its entry, 1 its exit, 2 its cost, 3 1 if it is up and 0 if it is down, 4 its version");
        range(Scene.BUSY, 0, 4, (x, what) -> x.tunnel(1, what));
        says(18, "Returns a property of a tunnel.");
        PrivateLinkRouting x = Check.loaded("node 0;node 0;node 0;node 0;node 0;tunnel 4 3 40;tunnel 2 4 1;");
        dueAll("up", answers(5, what -> x.tunnel(0, what)), 4, 3, 40, 1, 1);
        says(18, "Returns the property;");
        x.setTunnel(1, 1, 40);
        x.setTunnel(1, 0, 2);
        dueAll("down", answers(5, what -> x.tunnel(1, what)), 2, 4, 2, 0, 3);
        says(18, "INVALID_ARGUMENT if there is no such tunnel or what is out of range.");
        refused(Scene.NEW, INVALID, "no tunnel at all", y -> y.tunnel(0, 0));
        refused(Scene.BUSY, INVALID, "both are wrong", y -> y.tunnel(2, 5));
    }

    private void grant() {
        says(19, "owner: the area that gives it, 0 to 3");
        range(Scene.BUSY, 0, 3, (x, owner) -> x.grant(owner, 1, 0));
        says(19, "area: another area");
        range(Scene.BUSY, 0, 3, (x, area) -> x.grant(2, area, 1));
        says(19, "what: 0 1 if it is on and 0 if it is off, 1 its version");
        range(Scene.BUSY, 0, 1, (x, what) -> x.grant(0, 1, what));
        says(19, "Returns a property of a grant.");
        PrivateLinkRouting x = Scene.NEW.make();
        dueAll("at first", answers(2, what -> x.grant(3, 0, what)), 0, 0);
        says(19, "Returns the property;");
        x.setGrant(3, 0, 1);
        dueAll("on", answers(2, what -> x.grant(3, 0, what)), 1, 1);
        dueAll("the other way", answers(2, what -> x.grant(0, 3, what)), 0, 0);
        x.setGrant(3, 0, 0);
        dueAll("off", answers(2, what -> x.grant(3, 0, what)), 0, 2);
        says(19, "INVALID_ARGUMENT if an argument is out of range, or both areas are the same.");
        for (int area = 0; area < 4; area++) {
            int same = area;
            refused(Scene.BUSY, INVALID, "both are area " + area, y -> y.grant(same, same, 0));
            refused(Scene.BUSY, INVALID, "both are area " + area + ", version", y -> y.grant(same, same, 1));
        }
    }

    private void known() {
        says(20, "node: a node");
        range(Scene.BUSY, 0, 3, (x, node) -> x.known(node, 17, 0));
        range(Scene.FULL, 0, 9, (x, node) -> x.known(node, 34, 3));
        says(20, "what: 0 the known version, 1 1 if it is on or up by the fact and 0 if not, 2 the cost of the fact");
        range(Scene.BUSY, 0, 3, (x, what) -> x.known(1, 17, what));
        says(20, "Returns what a node knows about an item.");
        PrivateLinkRouting x = Check.settled("node 0;node 0;node 0;link 0 1 20;link 1 2 3;tunnel 2 0 40;grant 0 3;");
        x.setLink(0, 0, 19);
        x.setTunnel(0, 0, 39);
        dueAll("a link that is down", answers(4, what -> x.known(0, 16, what)), 2, 0, 19, 1);
        dueAll("a link as it was", answers(4, what -> x.known(2, 16, what)), 1, 1, 20, 0);
        says(20, "Returns that number;");
        dueAll("a tunnel that is down", answers(4, what -> x.known(2, 32, what)), 2, 0, 39, 1);
        dueAll("a tunnel as it was", answers(4, what -> x.known(0, 32, what)), 1, 1, 40, 0);
        dueAll("a grant", answers(4, what -> x.known(2, 3, what)), 1, 1, 0, 0);
        x.setGrant(0, 3, 0);
        dueAll("a grant that is off", answers(4, what -> x.known(2, 3, what)), 2, 0, 0, 1);
        says(20, "INVALID_ARGUMENT if there is no such node or item or what is out of range;");
        refused(Scene.NEW, INVALID, "no node at all", y -> y.known(0, 1, 0));
        refused(Scene.BUSY, INVALID, "no fact, and no such what", y -> y.known(3, 16, 4));
        refused(Scene.BUSY, INVALID, "no such item, and NONE to be asked", y -> y.known(3, 19, 1));
        refused(Scene.BUSY, INVALID, "no such node, and NONE to be asked", y -> y.known(4, 16, 2));
        says(20, "NONE for 1 and 2 if there is no fact.");
        PrivateLinkRouting busy = Scene.BUSY.make();
        dueAll("a private link", answers(4, what -> busy.known(3, 16, what)), NO_FACT);
        dueAll("a grant that was never set", answers(4, what -> busy.known(3, 2, what)), NO_FACT);
        dueAll("a tunnel", answers(4, what -> busy.known(0, 33, what)), NO_FACT);
    }

    private void knownItems() {
        says(20, "item: the number of an item that exists (a grant of an area to itself does not exist)");
        range(Scene.FULL, 1, 34, (x, item) -> x.known(9, item, 0));
        for (int item = -1; item <= 36; item++) {
            int number = item;
            boolean exists = item >= 0 && item < 16 && item / 4 != item % 4 || item >= 16 && item <= 18
                || item == 32 || item == 33;
            if (exists) {
                taken(Scene.BUSY, "item " + item, x -> x.known(2, number, 0));
            } else {
                refused(Scene.BUSY, INVALID, "item " + item, x -> x.known(2, number, 0));
            }
        }
        PrivateLinkRouting x = Check.loaded("node 0;node 0;");
        dueAll("no links", new int[] {x.known(0, 14, 0), x.known(0, 15, 0), x.known(0, 16, 0)}, 0, INVALID, INVALID);
        x.addLink(0, 1, 1, 0);
        dueAll("a link", new int[] {x.known(0, 16, 0), x.known(0, 17, 0), x.known(0, 32, 0)}, 1, INVALID, INVALID);
        x.addTunnel(0, 1, 1);
        dueAll("a tunnel", new int[] {x.known(0, 31, 0), x.known(0, 32, 0), x.known(0, 33, 0)}, INVALID, 1, INVALID);
    }
}
