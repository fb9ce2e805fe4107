/** Boundary cases of the network itself: how many things there are, and promises 1 to 7. */
final class NetworkBounds extends Bounds {
    /** One more link, and one more tunnel, is all that fits. */
    private static final Scene ALMOST_FULL = new Scene("almost full", NetworkBounds::almostFull);
    private static final Scene ONE_NODE = new Scene("one node", () -> Check.loaded("node 0;"));

    NetworkBounds(Check check, Sentences sentences) {
        super(check, sentences);
    }

    @Override
    void run() {
        newObject();
        nodes();
        links();
        linksBetweenTheSameNodes();
        owners();
        grants();
        tunnels();
        items();
        versions();
        addNode();
        addLink();
        setLink();
        setGrant();
        addTunnel();
        setTunnel();
    }

    private static PrivateLinkRouting almostFull() {
        PrivateLinkRouting x = Check.loaded("node 0;node 1;node 2;tunnel 0 1 40;tunnel 1 2 1;");
        for (int link = 0; link < 15; link++) {
            x.addLink(link % 3, (link + 1) % 3, link + 1, link % 2);
        }
        return x;
    }

    private void newObject() {
        says(1, "Creates a network without nodes, with all grants off and an empty text.");
        PrivateLinkRouting x = new PrivateLinkRouting();
        for (int what = 0; what <= 6; what++) {
            due("count " + what, x.count(what), 0);
        }
        for (int item = 0; item < 16; item++) {
            int want = item / 4 == item % 4 ? INVALID : 0;
            due("a grant is off", x.grant(item / 4, item % 4, 0), want);
            due("its version", x.grant(item / 4, item % 4, 1), want);
            due("its worth", x.worth(item / 4, item % 4), want);
        }
        for (int result = 0; result < 5; result++) {
            due("outcomes " + result, x.outcomes(result), 0);
        }
        due("no node", x.node(0, 0), INVALID);
        due("no link", x.link(0, 0), INVALID);
        due("no tunnel", x.tunnel(0, 0), INVALID);
        due("no node that knows", x.known(0, 1, 0), INVALID);
        due("no node to measure from", x.distance(0, 0, 0), INVALID);
        due("no node to send from", x.send(0, 1), INVALID);
        due("no ideal way", x.ideal(0, 0), INVALID);
        due("no way", x.way(-1), ILLEGAL);
        due("quiet", x.roundsToQuiet(), 0);
        due("clearText", x.clearText(), 0);
        PrivateLinkRouting other = new PrivateLinkRouting();
        other.addNode(0);
        other.setGrant(0, 1, 1);
        other.append('x');
        due("another object's nodes", x.count(0), 0);
        due("another object's grants", x.count(3), 0);
        due("another object's text", x.count(6), 0);
    }

    private void nodes() {
        says(0, "There are at most 10 nodes, numbered from 0 in the order in which they were added;");
        PrivateLinkRouting x = new PrivateLinkRouting();
        for (int i = 0; i < 10; i++) {
            due("node " + i, x.addNode((i + 1) % 4), i);
        }
        for (int i = 0; i < 10; i++) {
            due("in this order, area of node " + i, x.node(i, 0), (i + 1) % 4);
        }
        due("one more", x.addNode(0), NO_ROOM);
        due("its number", x.node(10, 0), INVALID);
        due("nodes", x.count(0), 10);
        x.undo();
        due("room again", x.addNode(3), 9);

        says(0, "each belongs to an area, 0 to 3.");
        PrivateLinkRouting y = new PrivateLinkRouting();
        dueAll("areas", new int[] {y.addNode(-1), y.addNode(0), y.addNode(3), y.addNode(4)}, INVALID, 0, 1, INVALID);
        dueAll("areas of both", new int[] {y.node(0, 0), y.node(1, 0)}, 0, 3);
    }

    private void links() {
        says(0, "There are at most 16 links, numbered from 0, likewise.");
        PrivateLinkRouting x = Check.loaded("node 0;node 1;node 2;");
        for (int i = 0; i < 16; i++) {
            due("link " + i, x.addLink(i % 3, (i + 1) % 3, i + 1, 0), i);
        }
        for (int i = 0; i < 16; i++) {
            due("in this order, cost of link " + i, x.link(i, 2), i + 1);
        }
        due("one more", x.addLink(0, 1, 1, 0), NO_ROOM);
        due("its number", x.link(16, 0), INVALID);
        x.undo();
        due("room again", x.addLink(0, 1, 20, 1), 15);

        says(0, "A link has two different nodes as its ends, a first and a second one, and can be used in both");
        PrivateLinkRouting y = Check.loaded("node 0;node 0;");
        due("the same node twice", y.addLink(1, 1, 1, 0), INVALID);
        due("two nodes", y.addLink(1, 0, 20, 0), 0);
        dueAll("ends", new int[] {y.link(0, 0), y.link(0, 1)}, 1, 0);
        dueAll("from the first end", new int[] {y.send(1, 0), y.way(1), y.next(1, 0, 0, 1)}, 0, 0, 16);
        dueAll("from the second end", new int[] {y.send(0, 1), y.way(1), y.next(0, 1, 0, 1)}, 0, 1, 16);

        says(0, "it has a cost from 1 to 20, is up or down, and is public or private.");
        PrivateLinkRouting z = Check.loaded("node 0;node 0;link 0 1 1;private 1 0 20;");
        z.setLink(1, 0, 20);
        dueAll("costs", new int[] {z.link(0, 2), z.link(1, 2)}, 1, 20);
        dueAll("up or down", new int[] {z.link(0, 3), z.link(1, 3)}, 1, 0);
        dueAll("public or private", new int[] {z.link(0, 4), z.link(1, 4)}, 0, 1);
    }

    private void linksBetweenTheSameNodes() {
        says(0, "There can be several links between the same nodes.");
        PrivateLinkRouting x = Check.loaded("node 0;node 1;");
        for (int i = 0; i < 16; i++) {
            due("link " + i, x.addLink(i % 2, 1 - i % 2, 20 - i, 0), i);
        }
        due("the cheapest", x.next(0, 1, 0, 1), 31);
        due("its cost", x.distance(1, 0, 3), 5);
        due("each fact over each link in each direction", x.step(1), 16 * 16 * 2);
    }

    private void owners() {
        says(0, "The owner of a private link is the area of its first end.");
        PrivateLinkRouting x = Check.loaded("node 0;node 1;private 0 1 5;private 1 0 9;");
        dueAll("for the area of link 0", new int[] {x.distance(0, 1, 0), x.distance(1, 0, 0)}, 5, 5);
        dueAll("for the area of link 1", new int[] {x.distance(0, 1, 1), x.distance(1, 0, 1)}, 9, 9);
        dueAll("for others", new int[] {x.distance(0, 1, 2), x.distance(1, 0, 3)}, NONE, NONE);

        says(0, "An area is entitled to the private links of O if it is O, or if the grant of O to it is on.");
        dueAll("each area to its own", new int[] {x.ideal(0, 1), x.ideal(1, 0)}, 5, 9);
        x.setGrant(1, 0, 1);
        dueAll("this grant is the other area's", new int[] {x.ideal(0, 1), x.ideal(1, 0)}, 5, 9);
        x.setGrant(0, 1, 1);
        due("area 1 by its grant", x.ideal(1, 0), 5);
        x.setLink(0, 1, 20);
        due("area 0 by its grant", x.ideal(0, 1), 9);
        x.setGrant(1, 0, 0);
        due("area 0 without it", x.ideal(0, 1), 20);
    }

    private void grants() {
        says(0, "For each two different areas O and B there is a grant of O to B, which is on or off (off at first).");
        PrivateLinkRouting x = new PrivateLinkRouting();
        int on = 0;
        for (int owner = 0; owner < 4; owner++) {
            for (int area = 0; area < 4; area++) {
                boolean exists = owner != area;
                due("off at first", x.grant(owner, area, 0), exists ? 0 : INVALID);
                due("set on", x.setGrant(owner, area, 1), exists ? 1 : INVALID);
                on += exists ? 1 : 0;
                due("grants that are on", x.count(3), on);
            }
        }
        due("all grants", x.count(3), 12);
        due("set off", x.setGrant(3, 2, 0), 2);
        dueAll("just this one is off", new int[] {x.grant(3, 2, 0), x.grant(2, 3, 0), x.count(3)}, 0, 1, 11);
    }

    private void tunnels() {
        says(0, "There are at most 3 tunnels, numbered from 0.");
        PrivateLinkRouting x = Check.loaded("node 0;node 1;");
        for (int i = 0; i < 3; i++) {
            due("tunnel " + i, x.addTunnel(i % 2, 1 - i % 2, 40 - i), i);
        }
        dueAll("costs", new int[] {x.tunnel(0, 2), x.tunnel(1, 2), x.tunnel(2, 2)}, 40, 39, 38);
        due("one more", x.addTunnel(0, 1, 1), NO_ROOM);
        due("its number", x.tunnel(3, 0), INVALID);
        x.undo();
        due("room again", x.addTunnel(0, 1, 1), 2);

        says(0, "A tunnel leads from a node, its entry, to another node, its exit (in this direction only);");
        PrivateLinkRouting y = Check.loaded("node 0;node 0;tunnel 1 0 7;");
        due("the same node twice", y.addTunnel(1, 1, 1), INVALID);
        dueAll("entry and exit", new int[] {y.tunnel(0, 0), y.tunnel(0, 1)}, 1, 0);
        due("in this direction", y.distance(1, 0, 0), 7);
        y.addLink(0, 1, 20, 0);
        y.settle();
        dueAll("in the other one", new int[] {y.known(0, 32, 1), y.distance(0, 1, 0)}, 1, 20);

        says(0, "it has a cost from 1 to 40, and is up or down.");
        PrivateLinkRouting z = Check.loaded("node 0;node 0;tunnel 0 1 1;tunnel 0 1 40;");
        z.setTunnel(1, 0, 40);
        dueAll("costs", new int[] {z.tunnel(0, 2), z.tunnel(1, 2)}, 1, 40);
        dueAll("up or down", new int[] {z.tunnel(0, 3), z.tunnel(1, 3)}, 1, 0);
    }

    private void items() {
        says(0, "4 * O + B for the grant of O to B, 16 + k for link k, and 32 + k for tunnel k.");
        PrivateLinkRouting x = Scene.FULL.make();
        for (int item = -1; item <= 35; item++) {
            boolean exists = item >= 0 && item < 35 && (item >= 16 || item / 4 != item % 4);
            due("item " + item, x.known(0, item, 0), exists ? 1 : INVALID);
        }
        for (int k = 0; k < 16; k++) {
            due("the cost of link " + k, x.known(0, 16 + k, 2), k + 1);
        }
        for (int k = 0; k < 3; k++) {
            due("the cost of tunnel " + k, x.known(0, 32 + k, 2), 38 + k);
        }
        x.setGrant(0, 3, 0);
        x.setGrant(2, 1, 0);
        dueAll("the grants of 0 to 3 and of 3 to 0", new int[] {x.known(0, 3, 1), x.known(0, 12, 1)}, 0, 1);
        dueAll("the grants of 2 to 1 and of 1 to 2", new int[] {x.known(2, 9, 1), x.known(2, 6, 1)}, 0, 1);
    }

    private void versions() {
        says(0, "Each item has a version: 0 for a grant at first, 1 for a link or a tunnel when it is added;");
        PrivateLinkRouting x = Check.loaded("node 0;node 1;link 0 1 1;private 1 0 1;tunnel 0 1 1;");
        dueAll("versions", new int[] {x.grant(0, 1, 1), x.link(0, 5), x.link(1, 5), x.tunnel(0, 4)}, 0, 1, 1, 1);

        says(0, "and 1 more each time when it is set.");
        for (int version = 2; version <= 4; version++) {
            due("a link's", x.setLink(1, version % 2, 1), version);
            due("a tunnel's", x.setTunnel(0, version % 2, 1), version);
            due("a grant's", x.setGrant(0, 1, (version + 1) % 2), version - 1);
        }
        dueAll("as told", new int[] {x.link(1, 5), x.tunnel(0, 4), x.grant(0, 1, 1)}, 4, 4, 3);
        dueAll("others are as before", new int[] {x.link(0, 5), x.grant(1, 0, 1)}, 1, 0);
        x.undo();
        due("undone, and set again", x.setGrant(0, 1, 1), 3);
        due("so many calls that no object has more", versionAfterAllCalls(), 509);
    }

    /** Two nodes, a link, 508 sets and the look at its version are 512 calls. */
    private static int versionAfterAllCalls() {
        PrivateLinkRouting x = new PrivateLinkRouting();
        x.addNode(0);
        x.addNode(1);
        x.addLink(0, 1, 20, 1);
        for (int i = 0; i < 508; i++) {
            x.setLink(0, i % 2, 20);
        }
        return x.link(0, 5);
    }

    private void addNode() {
        says(2, "area: 0 to 3");
        range(Scene.NEW, 0, 3, PrivateLinkRouting::addNode);
        range(Scene.BUSY, 0, 3, PrivateLinkRouting::addNode);
        says(2, "Adds a node with an empty database.");
        PrivateLinkRouting x = Scene.QUIET.make();
        x.addNode(0);
        dueAll("facts, news and secrets", new int[] {x.node(4, 1), x.node(4, 2), x.node(4, 4)}, 0, 0, 0);
        due("quiet still", x.roundsToQuiet(), 0);
        says(2, "Returns its number;");
        due("the fifth one", Scene.BUSY.make().addNode(3), 4);
        says(2, "INVALID_ARGUMENT if area is out of range;");
        refused(Scene.FULL, INVALID, "no area, and no room", y -> y.addNode(4));
        refused(Scene.FULL, INVALID, "no area, and no room", y -> y.addNode(-1));
        says(2, "CAPACITY_EXCEEDED if there are 10 nodes.");
        for (int area = 0; area < 4; area++) {
            int same = area;
            refused(Scene.FULL, NO_ROOM, "area " + area, y -> y.addNode(same));
        }
    }

    private void addLink() {
        says(3, "first: a node");
        range(Scene.BUSY, 0, 3, (x, first) -> x.addLink(first, 1, 5, 0));
        says(3, "second: another node");
        range(Scene.BUSY, 0, 3, (x, second) -> x.addLink(2, second, 5, 1));
        says(3, "cost: 1 to 20");
        range(Scene.BUSY, 1, 20, (x, cost) -> x.addLink(0, 3, cost, 1));
        says(3, "isPrivate: 1 for a private link, 0 for a public one");
        range(Scene.BUSY, 0, 1, (x, isPrivate) -> x.addLink(3, 0, 5, isPrivate));
        says(3, "Returns its number;");
        PrivateLinkRouting x = Scene.BUSY.make();
        due("the fourth one", x.addLink(3, 0, 20, 1), 3);
        says(3, "Adds a link, which is up.");
        dueAll("its ends, cost and state",
            new int[] {x.link(3, 0), x.link(3, 1), x.link(3, 2), x.link(3, 3)}, 3, 0, 20, 1);
        dueAll("private, version", new int[] {x.link(3, 4), x.link(3, 5)}, 1, 1);
        says(3, "INVALID_ARGUMENT if there is no such node, both are the same, or another argument is out of range;");
        refused(Scene.NEW, INVALID, "no node at all", y -> y.addLink(0, 1, 5, 0));
        refused(ONE_NODE, INVALID, "one node alone", y -> y.addLink(0, 0, 5, 0));
        refused(ONE_NODE, INVALID, "no second node", y -> y.addLink(0, 1, 5, 0));
        for (int node = 0; node < 4; node++) {
            int same = node;
            refused(Scene.BUSY, INVALID, "both are node " + node, y -> y.addLink(same, same, 5, 0));
        }
        refused(Scene.FULL, INVALID, "no such node, and no room", y -> y.addLink(10, 1, 5, 0));
        refused(Scene.FULL, INVALID, "both are the same, and no room", y -> y.addLink(9, 9, 5, 0));
        refused(Scene.FULL, INVALID, "no cost, and no room", y -> y.addLink(0, 1, 21, 0));
        refused(Scene.FULL, INVALID, "neither public nor private, and no room", y -> y.addLink(0, 1, 20, 2));
        says(3, "CAPACITY_EXCEEDED if there are 16 links.");
        due("the sixteenth", ALMOST_FULL.make().addLink(2, 0, 1, 0), 15);
        refused(Scene.FULL, NO_ROOM, "a public one", y -> y.addLink(0, 9, 1, 0));
        refused(Scene.FULL, NO_ROOM, "a private one", y -> y.addLink(9, 0, 20, 1));
    }

    private void setLink() {
        says(4, "link: a link");
        range(Scene.BUSY, 0, 2, (x, link) -> x.setLink(link, 0, 9));
        range(Scene.FULL, 0, 15, (x, link) -> x.setLink(link, 0, 20));
        says(4, "up: 1 for up, 0 for down");
        range(Scene.BUSY, 0, 1, (x, up) -> x.setLink(1, up, 8));
        says(4, "cost: 1 to 20");
        range(Scene.BUSY, 1, 20, (x, cost) -> x.setLink(1, 1, cost));
        range(Scene.BUSY, 1, 20, (x, cost) -> x.setLink(0, 0, cost));
        says(4, "Returns its version then;");
        PrivateLinkRouting x = Scene.BUSY.make();
        dueAll("its second one, and its third one", new int[] {x.setLink(0, 0, 20), x.setLink(0, 1, 1)}, 2, 3);
        says(4, "Sets a link.");
        dueAll("cost, state, version", new int[] {x.link(0, 2), x.link(0, 3), x.link(0, 5)}, 1, 1, 3);
        dueAll("the others", new int[] {x.link(1, 2), x.link(1, 5), x.link(2, 2), x.link(2, 5)}, 7, 2, 5, 1);
        says(4, "INVALID_ARGUMENT if there is no such link, or another argument is out of range;");
        refused(Scene.NEW, INVALID, "no link at all", y -> y.setLink(0, 1, 1));
        refused(ONE_NODE, INVALID, "no link at all", y -> y.setLink(0, 0, 1));
        says(4, "ILLEGAL_STATE if it is so already.");
        refused(Scene.BUSY, ILLEGAL, "up, cost 3", y -> y.setLink(0, 1, 3));
        refused(Scene.BUSY, ILLEGAL, "up, cost 7, as node 0 does not know", y -> y.setLink(1, 1, 7));
        due("up, cost 4, as node 0 knows it", Scene.BUSY.make().setLink(1, 1, 4), 3);
        due("the cost alone is another one", Scene.BUSY.make().setLink(0, 1, 4), 2);
        due("the state alone is another one", Scene.BUSY.make().setLink(0, 0, 3), 2);
        Scene down = Scene.BUSY.after("link 0 is down", y -> y.setLink(0, 0, 3));
        refused(down, ILLEGAL, "down, cost 3", y -> y.setLink(0, 0, 3));
        due("down, the cost alone is another one", down.make().setLink(0, 0, 2), 3);
        due("down, the state alone is another one", down.make().setLink(0, 1, 3), 3);
    }

    private void setGrant() {
        says(5, "owner: the area O that gives it, 0 to 3");
        range(Scene.BUSY, 0, 3, (x, owner) -> x.setGrant(owner, 2, 1));
        range(Scene.NEW, 0, 3, (x, owner) -> x.setGrant(owner, 1, 1));
        says(5, "area: another area B");
        range(Scene.BUSY, 0, 3, (x, area) -> x.setGrant(1, area, 1));
        says(5, "on: 1 for on, 0 for off");
        range(Scene.BUSY, 0, 1, (x, on) -> on == 0 ? x.setGrant(0, 1, on) : x.setGrant(1, 0, on));
        says(5, "Returns its version then;");
        PrivateLinkRouting x = Scene.BUSY.make();
        dueAll("on and off", new int[] {x.setGrant(3, 0, 1), x.setGrant(3, 0, 0), x.setGrant(0, 1, 0)}, 1, 2, 2);
        says(5, "Sets a grant.");
        dueAll("states", new int[] {x.grant(3, 0, 0), x.grant(0, 1, 0), x.grant(2, 3, 0)}, 0, 0, 1);
        says(5, "INVALID_ARGUMENT if an argument is out of range, or both areas are the same;");
        for (int area = 0; area < 4; area++) {
            int same = area;
            refused(Scene.BUSY, INVALID, "both are area " + area + ", off", y -> y.setGrant(same, same, 0));
            refused(Scene.BUSY, INVALID, "both are area " + area + ", on", y -> y.setGrant(same, same, 1));
        }
        says(5, "ILLEGAL_STATE if it is so already.");
        refused(Scene.NEW, ILLEGAL, "off at first", y -> y.setGrant(0, 1, 0));
        refused(Scene.BUSY, ILLEGAL, "on", y -> y.setGrant(0, 1, 1));
        refused(Scene.BUSY, ILLEGAL, "on, as node 0 does not know", y -> y.setGrant(2, 3, 1));
        refused(Scene.BUSY, ILLEGAL, "off, though the other way it is on", y -> y.setGrant(1, 0, 0));
    }

    private void addTunnel() {
        says(6, "entry: a node");
        range(Scene.BUSY, 0, 3, (x, entry) -> x.addTunnel(entry, 1, 5));
        says(6, "exit: another node");
        range(Scene.BUSY, 0, 3, (x, exit) -> x.addTunnel(2, exit, 5));
        says(6, "cost: 1 to 40");
        range(Scene.BUSY, 1, 40, (x, cost) -> x.addTunnel(0, 3, cost));
        says(6, "Returns its number;");
        PrivateLinkRouting x = Scene.BUSY.make();
        due("the third one", x.addTunnel(3, 1, 40), 2);
        says(6, "Adds a tunnel, which is up.");
        dueAll("its entry and exit", new int[] {x.tunnel(2, 0), x.tunnel(2, 1)}, 3, 1);
        dueAll("its cost, state and version", new int[] {x.tunnel(2, 2), x.tunnel(2, 3), x.tunnel(2, 4)}, 40, 1, 1);
        says(6, "INVALID_ARGUMENT if there is no such node, both are the same, or cost is out of range;");
        refused(Scene.NEW, INVALID, "no node at all", y -> y.addTunnel(0, 1, 5));
        refused(ONE_NODE, INVALID, "one node alone", y -> y.addTunnel(0, 0, 5));
        refused(ONE_NODE, INVALID, "no exit", y -> y.addTunnel(0, 1, 5));
        for (int node = 0; node < 4; node++) {
            int same = node;
            refused(Scene.BUSY, INVALID, "both are node " + node, y -> y.addTunnel(same, same, 5));
        }
        refused(Scene.FULL, INVALID, "no such node, and no room", y -> y.addTunnel(0, 10, 5));
        refused(Scene.FULL, INVALID, "both are the same, and no room", y -> y.addTunnel(9, 9, 5));
        refused(Scene.FULL, INVALID, "no cost, and no room", y -> y.addTunnel(0, 1, 41));
        says(6, "CAPACITY_EXCEEDED if there are 3 tunnels.");
        due("the third one", ALMOST_FULL.make().addTunnel(2, 0, 1), 2);
        refused(Scene.FULL, NO_ROOM, "a fourth one", y -> y.addTunnel(0, 9, 1));
    }

    private void setTunnel() {
        says(7, "tunnel: a tunnel");
        range(Scene.BUSY, 0, 1, (x, tunnel) -> x.setTunnel(tunnel, 0, 9));
        range(Scene.FULL, 0, 2, (x, tunnel) -> x.setTunnel(tunnel, 0, 9));
        says(7, "up: 1 for up, 0 for down");
        range(Scene.BUSY, 0, 1, (x, up) -> x.setTunnel(1, up, 8));
        says(7, "cost: 1 to 40");
        range(Scene.BUSY, 1, 40, (x, cost) -> x.setTunnel(1, 1, cost));
        range(Scene.BUSY, 1, 40, (x, cost) -> x.setTunnel(0, 0, cost));
        says(7, "Returns its version then;");
        PrivateLinkRouting x = Scene.BUSY.make();
        dueAll("its second one, and its third one", new int[] {x.setTunnel(0, 0, 40), x.setTunnel(0, 1, 1)}, 2, 3);
        says(7, "Sets a tunnel.");
        dueAll("cost, state, version", new int[] {x.tunnel(0, 2), x.tunnel(0, 3), x.tunnel(0, 4)}, 1, 1, 3);
        dueAll("the other one", new int[] {x.tunnel(1, 2), x.tunnel(1, 3), x.tunnel(1, 4)}, 2, 1, 1);
        says(7, "INVALID_ARGUMENT if there is no such tunnel, or another argument is out of range;");
        refused(Scene.NEW, INVALID, "no tunnel at all", y -> y.setTunnel(0, 1, 1));
        refused(ONE_NODE, INVALID, "no tunnel at all", y -> y.setTunnel(0, 0, 1));
        says(7, "ILLEGAL_STATE if it is so already.");
        refused(Scene.BUSY, ILLEGAL, "up, cost 6", y -> y.setTunnel(0, 1, 6));
        refused(Scene.BUSY, ILLEGAL, "up, cost 2, as node 0 does not know", y -> y.setTunnel(1, 1, 2));
        due("the cost alone is another one", Scene.BUSY.make().setTunnel(0, 1, 7), 2);
        due("the state alone is another one", Scene.BUSY.make().setTunnel(0, 0, 6), 2);
        Scene down = Scene.BUSY.after("tunnel 1 is down", y -> y.setTunnel(1, 0, 2));
        refused(down, ILLEGAL, "down, cost 2", y -> y.setTunnel(1, 0, 2));
        due("down, the cost alone is another one", down.make().setTunnel(1, 0, 1), 3);
        due("down, the state alone is another one", down.make().setTunnel(1, 1, 2), 3);
    }
}
