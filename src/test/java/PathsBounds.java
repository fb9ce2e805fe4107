/** Boundary cases of views, paths and packets: promises 21 to 27. */
final class PathsBounds extends Bounds {
    private static final Scene ONE_NODE = new Scene("one node", () -> Check.loaded("node 2;"));
    /** Nodes 0 and 1 have a link, node 2 has none. */
    private static final Scene APART = new Scene("apart", () -> Check.settled("node 0;node 1;node 2;link 0 1 20;"));

    PathsBounds(Check check, Sentences sentences) {
        super(check, sentences);
    }

    @Override
    void run() {
        views();
        paths();
        distance();
        next();
        packets();
        denied();
        tunnels();
        twentyLinks();
        beforeLoop();
        send();
        way();
        outcomes();
        ideal();
        worth();
    }

    private void views() {
        says(0, "consists of the links in its database that are up by the fact about them, with the costs of these");
        PrivateLinkRouting x = Check.settled("node 0;node 0;node 0;link 0 1 2;link 1 2 3;link 0 2 20;tunnel 2 0 1;");
        x.setLink(1, 0, 3);
        dueAll("down, as an end knows, and as node 0 does not",
            new int[] {x.distance(1, 2, 0), x.distance(0, 2, 0)}, 22, 5);
        x.settle();
        due("as node 0 knows", x.distance(0, 2, 0), 20);
        x.setLink(1, 1, 1);
        dueAll("up again with another cost", new int[] {x.distance(1, 2, 0), x.distance(0, 2, 0)}, 1, 20);
        x.setTunnel(0, 0, 1);
        dueAll("a tunnel is down, as its entry knows", new int[] {x.distance(2, 0, 0), x.distance(1, 0, 0)}, 3, 2);
        x.setTunnel(0, 1, 40);
        due("a tunnel's cost", x.distance(2, 0, 0), 3);

        says(0, "A private link belongs to it only if its owner is A, or if the database has the fact that the grant");
        PrivateLinkRouting y = Check.settled("node 0;node 1;node 1;private 0 1 2;link 0 1 9;link 1 2 1;grant 0 2;");
        int[] views = {y.distance(0, 1, 0), y.distance(0, 1, 1), y.distance(0, 1, 2), y.distance(0, 1, 3)};
        dueAll("node 0's views for all areas", views, 2, 9, 2, 9);
        due("an end's view for its own area", y.distance(1, 0, 1), 9);
        y.setGrant(0, 1, 1);
        dueAll("the grant is known to node 0 alone", new int[] {y.distance(0, 1, 1), y.distance(1, 0, 1)}, 2, 9);
        y.settle();
        dueAll("to all", new int[] {y.distance(1, 0, 1), y.distance(2, 0, 1), y.distance(2, 0, 3)}, 2, 3, 10);
        y.setGrant(0, 1, 0);
        dueAll("off, as node 0 alone knows", new int[] {y.distance(0, 1, 1), y.distance(1, 0, 1)}, 9, 2);
    }

    private void paths() {
        says(0, "The path from a node to another one in a view (for A) is the one with the smallest sum of costs;");
        PrivateLinkRouting x = Check.settled(
            "node 0;node 0;node 0;node 0;link 0 1 1;link 1 2 1;link 2 3 1;link 0 3 4;");
        dueAll("three links for 3, not one for 4", new int[] {x.next(0, 3, 0, 0), x.distance(0, 3, 0)}, 1, 3);
        says(0, "of several, the one with the fewest links and tunnels;");
        x.setLink(3, 1, 3);
        dueAll("one link for 3, not three", new int[] {x.next(0, 3, 0, 0), x.distance(0, 3, 0)}, 3, 3);
        x.setLink(3, 1, 4);
        x.addTunnel(0, 2, 2);
        dueAll("a tunnel and a link for 3", new int[] {x.next(0, 3, 0, 1), x.distance(0, 3, 0)}, 32, 3);

        says(0, "of several, the one whose sequence of nodes is lexicographically smallest;");
        PrivateLinkRouting y = Check.settled(
            "node 0;node 0;node 0;node 0;link 0 2 1;link 2 3 2;link 1 3 1;link 0 1 2;");
        dueAll("by node 1, though its link is later and dearer",
            new int[] {y.next(0, 3, 0, 0), y.next(0, 3, 0, 1)}, 1, 19);
        dueAll("and back", new int[] {y.next(3, 0, 0, 0), y.next(3, 0, 0, 1)}, 1, 18);
        // Node 1 comes second at best: node 3 is a smaller first step than node 4, whatever comes behind it.
        PrivateLinkRouting z = Check.settled(
            "node0;node0;node0;node0;node0;node0;link0 4 1;link4 1 1;link1 5 1;link0 3 1;link3 2 1;link2 5 1;");
        due("the first node that differs counts", z.next(0, 5, 0, 0), 3);
        due("back: by node 1, not by node 2", z.next(5, 0, 0, 0), 1);

        says(0, "if there are several items from a node to the next one with which all this holds, the one with the");
        PrivateLinkRouting w = Check.settled(
            "node 0;node 0;link 0 1 5;link 1 0 4;link 0 1 4;tunnel 0 1 4;tunnel 0 1 4;");
        dueAll("of the cheapest, the first", new int[] {w.next(0, 1, 0, 1), w.next(1, 0, 0, 1)}, 17, 17);
        w.setLink(1, 1, 5);
        due("then the second", w.next(0, 1, 0, 1), 18);
        w.setLink(2, 0, 4);
        due("then the tunnel", w.next(0, 1, 0, 1), 32);
        w.setTunnel(0, 1, 5);
        due("then the next tunnel", w.next(0, 1, 0, 1), 33);
        w.setTunnel(1, 1, 5);
        due("of all with the same cost, the first link", w.next(0, 1, 0, 1), 16);
    }

    private void distance() {
        says(21, "node: a node");
        range(Scene.BUSY, 0, 3, (x, node) -> x.distance(node, 1, 1));
        range(Scene.FULL, 0, 9, (x, node) -> x.distance(node, 1, 1));
        says(21, "to: a node;");
        range(Scene.BUSY, 0, 3, (x, to) -> x.distance(1, to, 0));
        range(Scene.FULL, 0, 9, (x, to) -> x.distance(1, to, 0));
        says(21, "the same one for 0");
        for (int node = 0; node < 3; node++) {
            due("node " + node, APART.make().distance(node, node, 3), 0);
        }
        says(21, "area: the area A of the view, 0 to 3");
        range(Scene.BUSY, 0, 3, (x, area) -> x.distance(2, 0, area));
        range(Scene.BUSY, 0, 3, (x, area) -> x.distance(2, 2, area));
        says(21, "Returns the sum of the costs of the path from a node to another one in the view of the first one.");
        PrivateLinkRouting line = line("");
        dueAll("nine links of cost 20", new int[] {line.distance(0, 9, 0), line.distance(9, 0, 3)}, 180, 180);
        says(21, "Returns the sum;");
        due("three tunnels of cost 40, and six links of cost 20", dearest().distance(0, 9, 0), 240);
        says(21, "INVALID_ARGUMENT if an argument is out of range;");
        refused(Scene.NEW, INVALID, "no node at all", x -> x.distance(0, 0, 0));
        refused(ONE_NODE, INVALID, "no other node", x -> x.distance(0, 1, 0));
        refused(APART, INVALID, "no such area, and no path", x -> x.distance(0, 2, 4));
        says(21, "NONE if there is no path.");
        refused(APART, NONE, "to the node alone", x -> x.distance(0, 2, 0));
        refused(APART, NONE, "from the node alone", x -> x.distance(2, 1, 0));
    }

    private void next() {
        says(22, "node: a node");
        range(Scene.BUSY, 0, 3, (x, node) -> x.next(node, 1, 1, 0));
        says(22, "to: another node");
        range(Scene.BUSY, 0, 3, (x, to) -> x.next(1, to, 0, 1));
        says(22, "area: the area A of the view, 0 to 3");
        range(Scene.BUSY, 0, 3, (x, area) -> x.next(2, 0, area, 0));
        says(22, "part: 0 the next node, 1 the item that leads there");
        range(Scene.BUSY, 0, 1, (x, part) -> x.next(2, 0, 1, part));
        says(22, "Returns a part of the first step of the path from a node to another one in the view of the first");
        PrivateLinkRouting line = line("");
        dueAll("along a line", new int[] {line.next(0, 9, 0, 0), line.next(0, 9, 0, 1)}, 1, 16);
        dueAll("back", new int[] {line.next(9, 0, 0, 0), line.next(9, 0, 0, 1)}, 8, 24);
        says(22, "Returns the part;");
        PrivateLinkRouting full = Scene.FULL.make();
        full.setTunnel(2, 1, 1);
        dueAll("the last tunnel", new int[] {full.next(7, 2, 0, 0), full.next(7, 2, 0, 1)}, 2, 34);
        says(22, "INVALID_ARGUMENT if an argument is out of range, or both nodes are the same;");
        refused(Scene.NEW, INVALID, "no node at all", x -> x.next(0, 1, 0, 0));
        refused(ONE_NODE, INVALID, "one node alone", x -> x.next(0, 0, 0, 0));
        refused(Scene.BUSY, INVALID, "the same", x -> x.next(3, 3, 0, 1));
        refused(APART, INVALID, "no such part, and no path", x -> x.next(0, 2, 0, 2));
        refused(APART, INVALID, "no such area, and no path", x -> x.next(0, 2, -1, 0));
        says(22, "NONE if there is no path.");
        refused(APART, NONE, "no next node", x -> x.next(0, 2, 0, 0));
        refused(APART, NONE, "no item", x -> x.next(2, 0, 0, 1));
    }

    private void packets() {
        says(0, "A packet that is sent from a node to another one has the area A of the first node.");
        PrivateLinkRouting x = Check.settled(
            "node 0;node 1;node 0;node 0;link 0 1 1;private 0 2 3;link 0 2 9;link 2 3 1;");
        dueAll("area 1's packet at node 0", new int[] {x.send(1, 2), x.way(-2)}, 0, 10);
        dueAll("area 0's packet at node 0", new int[] {x.send(3, 1), x.way(-2)}, 0, 5);
        says(0, "It is at this node at first.");
        due("way 0", x.way(0), 3);
        says(0, "At each node that is not its target, the node takes the first item of the path from it to the target");
        dueAll("nodes on its way", new int[] {x.way(1), x.way(2), x.way(3), x.way(4)}, 2, 0, 1, NONE);
        says(0, "Otherwise it crosses the link to the other end;");
        due("links", x.way(-1), 3);
        says(0, "A packet that comes to its target (outside of a tunnel) is delivered, with the result 0.");
        dueAll("one link far", new int[] {x.send(0, 1), x.way(-1), x.way(1)}, 0, 1, 1);

        says(0, "1 NO_ROUTE there is no such path");
        PrivateLinkRouting y = APART.make();
        dueAll("at once", new int[] {y.send(0, 2), y.way(-1), y.way(-2), y.way(0), y.way(1)}, 1, 0, 0, 0, NONE);
        PrivateLinkRouting z = Check.settled("node 0;node 0;node 0;link 0 1 3;link 1 2 4;");
        z.setLink(1, 0, 4);
        dueAll("at the node that knows", new int[] {z.send(0, 2), z.way(-1), z.way(-2), z.way(1)}, 1, 1, 3, 1);

        says(0, "2 DOWN the item is a link or a tunnel that is down (whatever the database says)");
        // The ends of a link and the entry of a tunnel always know: no packet meets this.
        due("a link that is down", z.outcomes(2), 0);
        PrivateLinkRouting w = Check.settled("node 0;node 0;link 0 1 9;tunnel 0 1 1;");
        w.setTunnel(0, 0, 1);
        dueAll("a tunnel that is down", new int[] {w.outcomes(2), w.send(0, 1), w.way(-2)}, 0, 0, 9);
    }

    private void denied() {
        says(0, "3 DENIED the item is a private link, and A is not entitled to it (by the grants themselves)");
        PrivateLinkRouting x = Check.settled(
            "node 0;node 1;node 1;node 0;private 0 1 3;link 1 2 4;link 3 0 1;grant 0 1;");
        due("entitled", x.send(2, 0), 0);
        x.setGrant(0, 1, 0);
        dueAll("not entitled", new int[] {x.send(2, 0), x.way(-1), x.way(-2), x.way(1)}, 3, 1, 4, 1);
        dueAll("the owner's packet over the same link", new int[] {x.send(3, 2), x.way(-1)}, 0, 3);
        due("two nodes to two nodes", x.outcomes(3), 4);
        x.setGrant(0, 1, 1);
        due("entitled again, before any round", x.send(2, 0), 0);
        x.undo();
        x.settle();
        dueAll("not entitled, as all know", new int[] {x.send(2, 0), x.way(-1), x.outcomes(3)}, 1, 0, 0);
    }

    private void tunnels() {
        says(0, "until it is at the exit, the exit is its target, its area is the area of the entry, and tunnels do");
        PrivateLinkRouting x = Check.settled("node 0;node 0;node 0;link 0 1 5;link 1 2 1;tunnel 0 2 1;");
        dueAll("through its target, to the exit, and back", new int[] {x.send(0, 1), x.way(-1), x.way(2)}, 0, 3, 2);
        PrivateLinkRouting zero = Check.settled("node 0;node 0;node 0;link 1 2 5;link 2 0 1;tunnel 1 0 1;link 0 1 20;");
        dueAll("the exit is node 0", new int[] {zero.send(1, 2), zero.way(-1), zero.way(2), zero.way(3)}, 0, 3, 0, 2);
        PrivateLinkRouting y = Check.settled("node 0;node 0;node 1;private 0 1 7;link 0 2 2;tunnel 0 1 3;");
        dueAll("over the entry's private link", new int[] {y.send(2, 1), y.way(-1)}, 0, 2);
        PrivateLinkRouting z = Check.settled("node 0;node 0;node 0;link 0 1 5;tunnel 0 2 1;tunnel 1 2 1;");
        dueAll("no tunnel inside of a tunnel", new int[] {z.send(0, 2), z.way(-1)}, 1, 0);

        says(0, "The cost of its way is the sum of the costs (as they are) of all links that it has crossed, also");
        y.send(2, 1);
        due("both links", y.way(-2), 9);
        y.setLink(0, 1, 20);
        dueAll("before all know of the new cost", new int[] {y.send(2, 1), y.way(-2)}, 0, 22);
        PrivateLinkRouting alone = Check.settled("node 0;node 0;node 0;link 1 2 7;");
        dueAll("where node 0 knows nothing", new int[] {alone.send(2, 1), alone.way(-2)}, 0, 7);
        says(0, "tunnels themselves cost nothing there.");
        y.setTunnel(0, 1, 40);
        dueAll("a dear tunnel", new int[] {y.send(2, 1), y.way(-2)}, 0, 22);

        says(0, "behind that, target and area are as before (and if the exit is its target, it is there).");
        PrivateLinkRouting w = Check.settled("node 0;node 1;node 0;node 0;"
            + "link 0 1 1;link 0 2 3;private 2 3 1;link 2 3 5;tunnel 0 2 1;");
        dueAll("its own area: not over the private link", new int[] {w.send(1, 3), w.way(-1), w.way(-2)}, 0, 3, 9);
        dueAll("the entry's own packet", new int[] {w.send(0, 3), w.way(-2)}, 0, 4);
        dueAll("to the exit itself", new int[] {w.send(1, 2), w.way(-1), w.way(2), w.way(3)}, 0, 2, 2, NONE);
    }

    /** Ten nodes of area 0 in a line of dear links; more is added by the text, and all is flooded. */
    private static PrivateLinkRouting line(String tunnels) {
        PrivateLinkRouting x = Check.loaded("node0;".repeat(10) + tunnels);
        for (int node = 0; node < 9; node++) {
            x.addLink(node, node + 1, 20, 0);
        }
        x.settle();
        return x;
    }

    /** In the line, the first three links are down and have tunnels beside them; node 0 knows this. */
    private static PrivateLinkRouting dearest() {
        PrivateLinkRouting x = line("tunnel0 1 40;tunnel1 2 40;tunnel2 3 40;");
        for (int link = 2; link >= 0; link--) {
            x.setLink(link, 0, 20);
            x.settle();
        }
        return x;
    }

    private void twentyLinks() {
        says(0, "4 LOOP the item is a link, and the packet has crossed 20 links already (also those within tunnels)");
        PrivateLinkRouting twenty = line("tunnel0 9 1;tunnel9 1 1;tunnel1 4 1;");
        int[] result = {twenty.send(0, 4), twenty.way(-1), twenty.way(-2), twenty.way(20), twenty.way(21)};
        dueAll("9, 8 and 3 links: delivered", result, 0, 20, 400, 4, NONE);
        PrivateLinkRouting more = line("tunnel0 9 1;tunnel9 1 1;tunnel1 5 1;");
        int[] dropped = {more.send(0, 5), more.way(-1), more.way(-2), more.way(20), more.way(21)};
        dueAll("9, 8 and 4 links: dropped", dropped, 4, 20, 400, 4, NONE);
        dueAll("8, 4 and none before: delivered", new int[] {more.send(9, 5), more.way(-1)}, 0, 12);
        PrivateLinkRouting x = Check.settled("node 0;node 0;node 0;link 0 1 2;link 1 2 1;link 0 2 9;");
        x.setLink(1, 1, 20);
        dueAll("forth and back", new int[] {x.send(0, 2), x.way(-1), x.way(-2), x.outcomes(4)}, 4, 20, 40, 2);
        dueAll("the last nodes", new int[] {x.way(19), x.way(20), x.way(21)}, 1, 0, NONE);
        PrivateLinkRouting y = Check.settled(
            "node 0;node 0;node 0;link 0 1 5;link 0 2 10;link 1 2 10;tunnel 0 1 1;tunnel 1 0 1;");
        y.setLink(1, 1, 20);
        y.setLink(2, 1, 20);
        dueAll("each link in a tunnel of its own", new int[] {y.send(0, 2), y.way(-1), y.way(-2)}, 4, 20, 100);
    }

    /**
     * A packet from node 0 to node 9 is carried to node 8 (8 links) and to node 1 (7 links), and goes
     * on to node 6 (5 links), where it has crossed 20. Node 9 has area 1, all others area 0.
     */
    private static PrivateLinkRouting twentyToSix() {
        PrivateLinkRouting x = Check.loaded("node0;".repeat(9) + "node1;grant1 0;tunnel0 8 1;tunnel8 1 1;");
        for (int node = 0; node < 8; node++) {
            x.addLink(node, node + 1, node >= 1 && node < 6 ? 1 : 20, 0);
        }
        return x;
    }

    private void dueAtSix(String what, PrivateLinkRouting x, int result) {
        dueAll(what, new int[] {x.send(0, 9), x.way(-1), x.way(20), x.way(21)}, result, 20, 6, NONE);
    }

    private void beforeLoop() {
        says(0, "If one of these holds, the packet is dropped with the first one of these results.");
        PrivateLinkRouting x = twentyToSix();
        x.addLink(9, 6, 1, 1);
        x.settle();
        dueAtSix("a private link, entitled: LOOP", x, 4);
        x.setGrant(1, 0, 0);
        dueAtSix("a private link, not entitled: DENIED before LOOP", x, 3);
        PrivateLinkRouting y = twentyToSix();
        y.addLink(9, 6, 1, 0);
        y.settle();
        dueAtSix("a public link: LOOP", y, 4);
        y.setLink(8, 0, 1);
        dueAtSix("no path any more: NO_ROUTE before LOOP", y, 1);

        says(0, "4 LOOP the item is a link, and the packet has crossed 20 links already (also those within tunnels)");
        PrivateLinkRouting z = twentyToSix();
        z.addTunnel(6, 9, 1);
        z.settle();
        dueAtSix("a tunnel is no link; inside there is no path", z, 1);
        z.addLink(6, 9, 20, 0);
        z.settle();
        dueAtSix("inside there is a link", z, 4);
    }

    private void send() {
        says(23, "from: a node");
        range(Scene.BUSY, 0, 3, (x, from) -> x.send(from, 1));
        range(Scene.FULL, 0, 9, (x, from) -> x.send(from, 1));
        says(23, "to: another node");
        range(Scene.BUSY, 0, 3, (x, to) -> x.send(1, to));
        range(Scene.FULL, 0, 9, (x, to) -> x.send(1, to));
        says(23, "Returns the result, 0 to 4;");
        due("delivered", APART.make().send(0, 1), 0);
        due("no route", APART.make().send(1, 2), 1);
        says(23, "INVALID_ARGUMENT if there is no such node, or both are the same.");
        refused(Scene.NEW, INVALID, "no node at all", x -> x.send(0, 1));
        refused(ONE_NODE, INVALID, "one node alone", x -> x.send(0, 0));
        for (int node = 0; node < 4; node++) {
            int same = node;
            refused(Scene.BUSY, INVALID, "both are node " + node, x -> x.send(same, same));
        }
    }

    private void way() {
        says(24, "index: 0 for the node from which it was sent, 1 for the other end of the first link that it");
        PrivateLinkRouting x = Check.settled("node 0;node 1;node 2;link 0 1 3;link 1 2 4;");
        x.send(2, 0);
        says(24, "Returns a part of the way of the latest packet.");
        dueAll("nodes", new int[] {x.way(0), x.way(1), x.way(2), x.way(3)}, 2, 1, 0, NONE);
        says(24, "-1 for the number of links that it crossed, -2 for the cost of its way");
        dueAll("links and cost", new int[] {x.way(-1), x.way(-2)}, 2, 7);
        says(24, "Returns the part;");
        PrivateLinkRouting y = APART.make();
        y.send(2, 0);
        dueAll("no link was crossed", new int[] {y.way(-2), y.way(-1), y.way(0), y.way(1)}, 0, 0, 2, NONE);
        y.send(1, 0);
        dueAll("one link was crossed",
            new int[] {y.way(-2), y.way(-1), y.way(0), y.way(1), y.way(2)}, 20, 1, 1, 0, NONE);
        says(24, "INVALID_ARGUMENT if index is less than -2;");
        refused(Scene.BUSY, INVALID, "-3", z -> z.way(-3));
        refused(Scene.BUSY, INVALID, "the least", z -> z.way(Integer.MIN_VALUE));
        refused(APART, INVALID, "-3, and no way", z -> z.way(-3));
        refused(Scene.NEW, INVALID, "the least, and no way", z -> z.way(Integer.MIN_VALUE));
        says(24, "ILLEGAL_STATE if no way is kept;");
        for (int index : new int[] {-2, -1, 0, 1, 20, 21, Integer.MAX_VALUE}) {
            refused(APART, ILLEGAL, "index " + index, z -> z.way(index));
        }
        says(24, "NONE if there is no such node.");
        for (int index : new int[] {3, 4, 20, 21, 22, Integer.MAX_VALUE}) {
            due("index " + index, x.way(index), NONE);
        }
        refused(Scene.BUSY, NONE, "the greatest", z -> z.way(Integer.MAX_VALUE));
    }

    private void outcomes() {
        says(25, "result: 0 to 4");
        range(Scene.BUSY, 0, 4, PrivateLinkRouting::outcomes);
        range(Scene.NEW, 0, 4, PrivateLinkRouting::outcomes);
        says(25, "Counts the ordered pairs of different nodes such that a packet from the first one to the second one");
        PrivateLinkRouting x = APART.make();
        int[] apart = {x.outcomes(0), x.outcomes(1), x.outcomes(2), x.outcomes(3), x.outcomes(4)};
        dueAll("two nodes that are linked, one that is not", apart, 2, 4, 0, 0, 0);
        says(25, "Returns the number of pairs;");
        due("no nodes", new PrivateLinkRouting().outcomes(0), 0);
        dueAll("one node", new int[] {ONE_NODE.make().outcomes(0), ONE_NODE.make().outcomes(1)}, 0, 0);
        dueAll("all pairs", new int[] {line("").outcomes(0), Scene.FULL.make().outcomes(0)}, 90, 90);
        due("no pair", Check.loaded("node 0;".repeat(10)).outcomes(1), 90);
        says(25, "INVALID_ARGUMENT if result is out of range.");
        refused(APART, INVALID, "5", y -> y.outcomes(5));
        refused(APART, INVALID, "-1", y -> y.outcomes(-1));
    }

    private void ideal() {
        says(26, "from: a node");
        range(Scene.BUSY, 0, 3, (x, from) -> x.ideal(from, 1));
        range(Scene.FULL, 0, 9, (x, from) -> x.ideal(from, 1));
        says(26, "to: a node;");
        range(Scene.BUSY, 0, 3, (x, to) -> x.ideal(1, to));
        says(26, "the same one for 0");
        dueAll("the same", new int[] {ONE_NODE.make().ideal(0, 0), APART.make().ideal(2, 2)}, 0, 0);
        says(26, "where all links that are up may be used, private ones only if the area of the first node is");
        PrivateLinkRouting x = Check.loaded("node 0;node 1;node 0;private 0 1 2;link 1 2 9;link 2 0 8;tunnel 1 0 1;");
        dueAll("the owner's nodes, and another", new int[] {x.ideal(0, 1), x.ideal(2, 1), x.ideal(1, 0)}, 2, 9, 17);
        x.setGrant(0, 1, 1);
        due("entitled, whoever knows", x.ideal(1, 0), 2);
        x.setLink(0, 0, 2);
        due("down", x.ideal(1, 0), 17);
        says(26, "Returns the sum;");
        dueAll("nine links of cost 20", new int[] {line("").ideal(0, 9), line("").ideal(9, 0)}, 180, 180);
        says(26, "INVALID_ARGUMENT if there is no such node;");
        refused(Scene.NEW, INVALID, "no node at all", y -> y.ideal(0, 0));
        refused(ONE_NODE, INVALID, "no other node", y -> y.ideal(0, 1));
        refused(ONE_NODE, INVALID, "twice no node", y -> y.ideal(1, 1));
        says(26, "NONE if there is no way.");
        refused(APART, NONE, "to the node alone", y -> y.ideal(0, 2));
        due("a tunnel is no link", Check.loaded("node 0;node 0;tunnel 0 1 1;").ideal(0, 1), NONE);
    }

    private void worth() {
        says(27, "owner: the area that gives it, 0 to 3");
        range(Scene.BUSY, 0, 3, (x, owner) -> x.worth(owner, 1));
        range(Scene.NEW, 0, 3, (x, owner) -> x.worth(owner, 2));
        says(27, "area: another area");
        range(Scene.BUSY, 0, 3, (x, area) -> x.worth(1, area));
        says(27, "over all ordered pairs of different nodes of which the first one belongs to the area that has the");
        PrivateLinkRouting x = Check.loaded(
            "node 0;node 1;node 1;node 0;private 0 1 2;link 1 2 9;link 2 0 8;private 3 0 5;");
        // From 1 to 0: 17 and 2; from 1 and 2 to 3: none, and 7 and 13; the others are as they are.
        int want = 17 - 2 + 200 - 7 + 200 - 13;
        dueAll("off, on, and off again", new int[] {x.worth(0, 1), x.setGrant(0, 1, 1), x.worth(0, 1)}, want, 1, want);
        dueAll("an area that owns nothing, one without nodes", new int[] {x.worth(1, 0), x.worth(0, 2)}, 0, 0);
        says(27, "(200 in place of NONE).");
        due("one pair", Check.loaded("node 0;node 1;private 0 1 1;").worth(0, 1), 199);
        due("the longest way", longestWay().worth(0, 1), 20 + 40 + 60 + 80 + 100 + 120 + 140 + 160 + 180);
        due("never a way", Check.loaded("node 0;node 1;").worth(0, 1), 0);
        says(27, "Returns the sum;");
        due("a star of nine around the owner", star().worth(0, 1), 81 * 200 - 9 * (1 + 8 * 2));
        PrivateLinkRouting y = Check.loaded("node 1;node 0;node 2;private 1 0 5;private 2 1 5;");
        dueAll("two owners: each of them alone", new int[] {y.worth(0, 1), y.worth(2, 1)}, 195, 0);
        y.setGrant(2, 1, 1);
        dueAll("the other grant is as it is: on", new int[] {y.worth(0, 1), y.worth(2, 1)}, 195 + 190, 0);
        y.setGrant(0, 1, 1);
        dueAll("both are on", new int[] {y.worth(0, 1), y.worth(2, 1)}, 195 + 190, 190);
        y.setGrant(0, 2, 1);
        dueAll("another area's grant counts there", new int[] {y.worth(0, 1), y.worth(2, 1)}, 195 + 190, 190);
        says(27, "INVALID_ARGUMENT if an argument is out of range, or both areas are the same.");
        for (int area = 0; area < 4; area++) {
            int same = area;
            refused(Scene.BUSY, INVALID, "both are area " + area, z -> z.worth(same, same));
        }
    }

    /** A line of nine private links of cost 20; node 9 alone is of another area than their owner. */
    private static PrivateLinkRouting longestWay() {
        PrivateLinkRouting x = Check.loaded("node0;".repeat(9) + "node1;");
        for (int node = 0; node < 9; node++) {
            x.addLink(node, node + 1, 20, 1);
        }
        return x;
    }

    private static PrivateLinkRouting star() {
        PrivateLinkRouting x = Check.loaded("node0;" + "node1;".repeat(9));
        for (int node = 1; node < 10; node++) {
            x.addLink(0, node, 1, 1);
        }
        return x;
    }
}
