/** Promises 1 to 7: a new object, and nodes, links, grants and tunnels. */
public final class NetworkTest {
    private static final int INVALID = PrivateLinkRouting.INVALID_ARGUMENT;
    private static final int ILLEGAL = PrivateLinkRouting.ILLEGAL_STATE;
    private static final int FULL = PrivateLinkRouting.CAPACITY_EXCEEDED;

    private static final Check CHECK = new Check("NetworkTest");

    public static void main(String[] args) {
        newObject();
        addNode();
        addLink();
        addLinkMakesAllNews();
        fullOfLinks();
        setLink();
        setOneOfSeveral();
        setLinkMakesNews();
        setGrant();
        setGrantTeachesItsArea();
        setGrantMakesLinksNews();
        addTunnel();
        setTunnel();
        errorsChangeNothing();
        CHECK.end();
    }

    private static void due(String what, int got, int want) {
        CHECK.due(what, got, want);
    }

    private static void newObject() {
        PrivateLinkRouting x = new PrivateLinkRouting();
        for (int what = 0; what < 7; what++) {
            due("new: count " + what, x.count(what), 0);
        }
        for (int owner = 0; owner < 4; owner++) {
            for (int area = 0; area < 4; area++) {
                int want = owner == area ? INVALID : 0;
                due("new: grant is off", x.grant(owner, area, 0), want);
                due("new: grant's version", x.grant(owner, area, 1), want);
            }
        }
        due("new: node", x.node(0, 0), INVALID);
        due("new: step", x.step(1), ILLEGAL);
        due("new: settle", x.settle(), ILLEGAL);
        due("new: roundsToQuiet", x.roundsToQuiet(), 0);
        due("new: undo", x.undo(), ILLEGAL);
        due("new: way", x.way(0), ILLEGAL);
        due("new: outcomes", x.outcomes(0), 0);
        due("new: worth", x.worth(0, 1), 0);
    }

    private static void addNode() {
        PrivateLinkRouting x = new PrivateLinkRouting();
        due("addNode(-1)", x.addNode(-1), INVALID);
        due("addNode(4)", x.addNode(4), INVALID);
        due("no history by errors", x.count(5), 0);
        x.setGrant(3, 0, 1);
        for (int i = 0; i < 10; i++) {
            due("addNode", x.addNode(3 - i % 4), i);
            due("its area", x.node(i, 0), 3 - i % 4);
            due("its database is empty", x.node(i, 1), 0);
            due("no news", x.node(i, 2), 0);
            due("the grant is behind", x.node(i, 3), 1);
        }
        due("an 11th node", x.addNode(0), FULL);
        due("an 11th node of no area", x.addNode(4), INVALID);
        due("nodes", x.count(0), 10);
        due("addNode is an action", x.undo(), 4);
        due("nodes after undo", x.count(0), 9);
    }

    private static PrivateLinkRouting nodes(int... areas) {
        PrivateLinkRouting x = new PrivateLinkRouting();
        for (int area : areas) {
            x.addNode(area);
        }
        return x;
    }

    private static void addLink() {
        PrivateLinkRouting x = nodes(2, 1, 0);
        due("first -1", x.addLink(-1, 1, 1, 0), INVALID);
        due("first 3", x.addLink(3, 1, 1, 0), INVALID);
        due("second -1", x.addLink(0, -1, 1, 0), INVALID);
        due("second 3", x.addLink(0, 3, 1, 0), INVALID);
        due("the same", x.addLink(1, 1, 1, 0), INVALID);
        due("cost 0", x.addLink(0, 1, 0, 0), INVALID);
        due("cost 21", x.addLink(0, 1, 21, 0), INVALID);
        due("private -1", x.addLink(0, 1, 1, -1), INVALID);
        due("private 2", x.addLink(0, 1, 1, 2), INVALID);
        due("no link by errors", x.count(1), 0);
        due("a public link", x.addLink(0, 1, 20, 0), 0);
        due("a private link between the same", x.addLink(1, 0, 1, 1), 1);
        int[][] want = {{0, 1, 20, 1, 0, 1}, {1, 0, 1, 1, 1, 1}};
        for (int link = 0; link < 2; link++) {
            for (int what = 0; what < 6; what++) {
                due("link " + link + " " + what, x.link(link, what), want[link][what]);
            }
            for (int node = 0; node < 2; node++) {
                due("an end knows its link", x.known(node, 16 + link, 0), 1);
                due("it is up there", x.known(node, 16 + link, 1), 1);
                due("its cost there", x.known(node, 16 + link, 2), want[link][2]);
                due("it is news there", x.known(node, 16 + link, 3), 1);
            }
            due("others do not know it", x.known(2, 16 + link, 0), 0);
        }
        due("addLink is an action", x.undo(), 4);
        due("links after undo", x.count(1), 1);
        due("the end has forgotten it", x.known(0, 16, 0), 1);
        due("its item is none", x.known(0, 17, 0), INVALID);
    }

    private static void addLinkMakesAllNews() {
        PrivateLinkRouting x = Check.settled("node 0;node 1;node 2;link 0 1 1;tunnel 1 0 3;grant 1 2;");
        due("facts of node 1", x.node(1, 1), 3);
        due("nothing is news at node 1", x.node(1, 2), 0);
        x.addLink(2, 1, 4, 0);
        due("all is news at node 1", x.node(1, 2), 4);
        due("all is news at node 2", x.node(2, 2), 1);
        due("nothing is news at node 0", x.node(0, 2), 0);
    }

    private static void fullOfLinks() {
        PrivateLinkRouting x = nodes(0, 1);
        for (int i = 0; i < 16; i++) {
            due("addLink", x.addLink(i % 2, 1 - i % 2, 1 + i, i % 2), i);
        }
        due("a 17th link", x.addLink(0, 1, 1, 0), FULL);
        due("a 17th link of cost 0", x.addLink(0, 1, 0, 0), INVALID);
        due("links", x.count(1), 16);
        due("the item of the last one", x.known(0, 31, 2), 16);
        due("no item behind it", x.known(0, 32, 0), INVALID);
    }

    private static void setLink() {
        PrivateLinkRouting x = nodes(0, 1);
        x.addLink(0, 1, 5, 0);
        due("link -1", x.setLink(-1, 1, 6), INVALID);
        due("link 1", x.setLink(1, 1, 6), INVALID);
        due("up -1", x.setLink(0, -1, 6), INVALID);
        due("up 2", x.setLink(0, 2, 6), INVALID);
        due("cost 0", x.setLink(0, 1, 0), INVALID);
        due("cost 21", x.setLink(0, 1, 21), INVALID);
        due("it is so already", x.setLink(0, 1, 5), ILLEGAL);
        due("another cost", x.setLink(0, 1, 20), 2);
        due("down", x.setLink(0, 0, 20), 3);
        due("down already", x.setLink(0, 0, 20), ILLEGAL);
        due("down with another cost", x.setLink(0, 0, 1), 4);
        due("its cost", x.link(0, 2), 1);
        due("it is down", x.link(0, 3), 0);
        due("its version", x.link(0, 5), 4);
        due("the ends know", x.known(0, 16, 0) + x.known(1, 16, 0), 8);
        due("down by the fact", x.known(1, 16, 1), 0);
        due("setLink is an action", x.undo(), 4);
        due("its version after undo", x.link(0, 5), 3);
        due("the end's version after undo", x.known(0, 16, 0), 3);
    }

    private static void setOneOfSeveral() {
        PrivateLinkRouting x = Check.loaded("node 0;node 1;node 0;link 0 1 5;link 1 2 6;tunnel 0 1 7;tunnel 1 2 8;");
        due("link 1 as link 0 is", x.setLink(1, 1, 5), 2);
        due("link 1 as it is", x.setLink(1, 1, 5), ILLEGAL);
        due("link 0 is as before", x.link(0, 5), 1);
        due("link 1 has its cost", x.link(1, 2), 5);
        due("tunnel 1 as tunnel 0 is", x.setTunnel(1, 1, 7), 2);
        due("tunnel 1 as it is", x.setTunnel(1, 1, 7), ILLEGAL);
        due("tunnel 0 is as before", x.tunnel(0, 4), 1);
        due("tunnel 1's entry", x.tunnel(1, 0), 1);
        due("tunnel 1's exit", x.tunnel(1, 1), 2);
        due("tunnel 1's cost", x.tunnel(1, 2), 7);
        due("tunnel 1's version", x.tunnel(1, 4), 2);
        due("the entry of tunnel 1 knows", x.known(1, 33, 0), 2);
    }

    private static void setLinkMakesNews() {
        PrivateLinkRouting x = Check.settled("node 0;node 0;node 0;link 0 1 1;link 1 2 1;");
        x.setLink(0, 1, 2);
        due("the link alone is news", x.node(0, 2), 1);
        due("the other end's news", x.node(1, 2), 1);
        due("no news elsewhere", x.node(2, 2), 0);
        x.settle();
        x.setLink(0, 0, 2);
        due("going down: the link alone is news", x.node(0, 2), 1);
        x.settle();
        x.setLink(0, 0, 3);
        due("staying down: the link alone is news", x.node(0, 2), 1);
        x.settle();
        x.setLink(0, 1, 3);
        due("coming up: all is news at one end", x.node(0, 2), 2);
        due("coming up: all is news at the other end", x.node(1, 2), 2);
    }

    private static void setGrant() {
        PrivateLinkRouting x = new PrivateLinkRouting();
        due("owner -1", x.setGrant(-1, 1, 1), INVALID);
        due("owner 4", x.setGrant(4, 1, 1), INVALID);
        due("area -1", x.setGrant(0, -1, 1), INVALID);
        due("area 4", x.setGrant(0, 4, 1), INVALID);
        due("the same", x.setGrant(2, 2, 1), INVALID);
        due("on -1", x.setGrant(0, 1, -1), INVALID);
        due("on 2", x.setGrant(0, 1, 2), INVALID);
        due("off already", x.setGrant(0, 1, 0), ILLEGAL);
        due("on", x.setGrant(0, 1, 1), 1);
        due("on already", x.setGrant(0, 1, 1), ILLEGAL);
        due("the other way it is off", x.grant(1, 0, 0), 0);
        due("off again", x.setGrant(0, 1, 0), 2);
        due("on again", x.setGrant(0, 1, 1), 3);
        due("another one", x.setGrant(3, 2, 1), 1);
        due("grants on", x.count(3), 2);
        due("setGrant is an action", x.undo(), 3);
        due("grants on after undo", x.count(3), 1);
    }

    private static void setGrantTeachesItsArea() {
        PrivateLinkRouting x = nodes(1, 0, 1, 2);
        x.setGrant(1, 2, 1);
        int[] want = {1, 0, 1, 0};
        for (int node = 0; node < 4; node++) {
            due("known version", x.known(node, 6, 0), want[node]);
            due("news", x.known(node, 6, 3), want[node]);
            due("facts", x.node(node, 1), want[node]);
        }
        due("on by the fact", x.known(0, 6, 1), 1);
        due("no cost", x.known(0, 6, 2), 0);
        x.setGrant(1, 2, 0);
        due("off by the fact", x.known(2, 6, 1), 0);
        due("version 2", x.known(2, 6, 0), 2);
    }

    private static void setGrantMakesLinksNews() {
        PrivateLinkRouting x = Check.settled(
            "node 0;node 0;node 1;private 0 1 1;link 1 0 2;private 2 0 3;private 0 2 4;");
        due("nothing is news", x.node(0, 2), 0);
        x.setGrant(0, 3, 1);
        int[] want = {1, 0, 0, 1};
        for (int link = 0; link < 4; link++) {
            due("private links of the owner are news " + link, x.known(0, 16 + link, 3), want[link]);
        }
        due("and the grant is", x.node(0, 2), 3);
        due("no news in the other area", x.node(2, 2), 0);
        x.settle();
        x.setGrant(0, 3, 0);
        due("off: the grant alone is news", x.node(0, 2), 1);
        due("off: the owner's area forgets nothing", x.known(0, 16, 0), 1);
    }

    private static void addTunnel() {
        PrivateLinkRouting x = nodes(0, 1, 2);
        due("entry -1", x.addTunnel(-1, 1, 1), INVALID);
        due("entry 3", x.addTunnel(3, 1, 1), INVALID);
        due("exit -1", x.addTunnel(0, -1, 1), INVALID);
        due("exit 3", x.addTunnel(0, 3, 1), INVALID);
        due("the same", x.addTunnel(2, 2, 1), INVALID);
        due("cost 0", x.addTunnel(0, 1, 0), INVALID);
        due("cost 41", x.addTunnel(0, 1, 41), INVALID);
        due("the first one", x.addTunnel(1, 2, 40), 0);
        int[] want = {1, 2, 40, 1, 1};
        for (int what = 0; what < 5; what++) {
            due("tunnel " + what, x.tunnel(0, what), want[what]);
        }
        due("its entry knows it", x.known(1, 32, 0), 1);
        due("its cost there", x.known(1, 32, 2), 40);
        due("it is news there", x.known(1, 32, 3), 1);
        due("its exit does not know it", x.known(2, 32, 0), 0);
        due("the second one", x.addTunnel(2, 1, 1), 1);
        due("the third one", x.addTunnel(0, 1, 1), 2);
        due("a fourth one", x.addTunnel(0, 2, 1), FULL);
        due("a fourth one of cost 41", x.addTunnel(0, 2, 41), INVALID);
        due("tunnels", x.count(2), 3);
        due("addTunnel is an action", x.undo(), 4);
        due("tunnels after undo", x.count(2), 2);
    }

    private static void setTunnel() {
        PrivateLinkRouting x = nodes(0, 1);
        x.addTunnel(1, 0, 7);
        due("tunnel -1", x.setTunnel(-1, 1, 6), INVALID);
        due("tunnel 1", x.setTunnel(1, 1, 6), INVALID);
        due("up -1", x.setTunnel(0, -1, 6), INVALID);
        due("up 2", x.setTunnel(0, 2, 6), INVALID);
        due("cost 0", x.setTunnel(0, 1, 0), INVALID);
        due("cost 41", x.setTunnel(0, 1, 41), INVALID);
        due("it is so already", x.setTunnel(0, 1, 7), ILLEGAL);
        due("another cost", x.setTunnel(0, 1, 40), 2);
        due("down", x.setTunnel(0, 0, 40), 3);
        due("down already", x.setTunnel(0, 0, 40), ILLEGAL);
        due("it is down", x.tunnel(0, 3), 0);
        due("its cost", x.tunnel(0, 2), 40);
        due("its version", x.tunnel(0, 4), 3);
        due("the entry knows", x.known(1, 32, 0), 3);
        due("down by the fact", x.known(1, 32, 1), 0);
        due("the exit does not", x.known(0, 32, 0), 0);
        due("setTunnel is an action", x.undo(), 4);
        due("its version after undo", x.tunnel(0, 4), 2);
    }

    private static void errorsChangeNothing() {
        PrivateLinkRouting x = Check.loaded("node 0;node 1;link 0 1 1;tunnel 0 1 1;");
        x.send(0, 1);
        x.addNode(9);
        x.addLink(0, 0, 1, 1);
        x.setLink(0, 1, 1);
        x.setGrant(0, 1, 0);
        x.addTunnel(0, 0, 1);
        x.setTunnel(0, 1, 1);
        x.step(0);
        x.append('x');
        x.load();
        x.send(0, 0);
        due("the way is kept", x.way(-1), 1);
        due("the history is", x.count(5), 1);
        due("the link's version is", x.link(0, 5), 1);
        due("the tunnel's version is", x.tunnel(0, 4), 1);
    }
}
