/** Stories of paths and packets, where views agree and where they do not. */
public final class PathsTest {
    private static final Check CHECK = new Check("PathsTest");

    public static void main(String[] args) {
        distance();
        views();
        fewestItems();
        leastNodes();
        leastItem();
        tunnelsHaveADirection();
        send();
        wayIsKept();
        denied();
        tunnelHidesPrivateLink();
        targetInsideOfTunnel();
        noTunnelInsideOfTunnel();
        areaInsideOfTunnel();
        areaBehindTunnel();
        droppedInsideOfTunnel();
        fullHouse();
        ideal();
        worth();
        CHECK.end();
    }

    private static void due(String what, int got, int want) {
        CHECK.due(what, got, want);
    }

    private static void distance() {
        PrivateLinkRouting x = Check.settled("node 0;node 0;node 0;node 0;link 0 1 20;link 1 2 20;link 0 2 19;");
        due("over one link", x.distance(0, 1, 0), 20);
        due("in the other direction", x.distance(1, 0, 3), 20);
        due("the shortest", x.distance(0, 2, 0), 19);
        due("to itself", x.distance(2, 2, 0), 0);
        due("no path", x.distance(0, 3, 0), -9);
        x.setLink(1, 1, 1);
        due("by what the node knows", x.distance(0, 1, 0), 20);
        due("by what an end knows", x.distance(1, 2, 0), 1);
        x.setLink(1, 0, 1);
        due("not over a link that is down", x.distance(1, 2, 0), 39);
        PrivateLinkRouting line = Check.settled("node0;node0;node0;node0;node0;node0;node0;link0 1 20;link1 2 20;"
            + "link2 3 20;link3 4 20;link4 5 20;link5 6 20;");
        due("a long path", line.distance(0, 6, 0), 120);
        due("a long path back", line.distance(6, 0, 0), 120);
    }

    private static void views() {
        PrivateLinkRouting x = Check.settled("node 0;node 1;node 0;private 0 1 2;link 0 1 9;link 1 2 1;grant 0 2;");
        due("the owner's view", x.distance(0, 1, 0), 2);
        due("the owner's node's view for area 1", x.distance(0, 1, 1), 9);
        due("its view for area 2, which has the grant", x.distance(0, 1, 2), 2);
        due("its view for area 3", x.distance(0, 1, 3), 9);
        due("the other end knows the link, but its view for area 1 has it not", x.distance(1, 0, 1), 9);
        due("its view for area 0 has it", x.distance(1, 0, 0), 2);
        due("its view for area 2 has it", x.distance(1, 0, 2), 2);
        due("node 2's view for area 0", x.distance(2, 0, 0), 3);
        due("node 2's view for area 1", x.distance(2, 0, 1), 10);
        x.setGrant(0, 1, 1);
        due("the owner's view for area 1", x.distance(0, 1, 1), 2);
        due("the other end's, before a round", x.distance(1, 0, 1), 9);
        x.step(1);
        due("the other end's, after a round", x.distance(1, 0, 1), 2);
        x.setGrant(0, 1, 0);
        due("the owner's, the grant off", x.distance(0, 1, 1), 9);
        due("the other end's, not knowing this", x.distance(1, 0, 1), 2);
    }

    private static void fewestItems() {
        PrivateLinkRouting x = Check.settled("node 0;node 0;node 0;link 0 1 1;link 1 2 1;link 0 2 2;");
        due("the same cost with fewer links", x.next(0, 2, 0, 0), 2);
        due("over this link", x.next(0, 2, 0, 1), 18);
        due("and back", x.next(2, 0, 0, 0), 0);
        x.setLink(2, 1, 3);
        due("cost comes first", x.next(0, 2, 0, 0), 1);
    }

    private static void leastNodes() {
        PrivateLinkRouting x = Check.settled(
            "node 0;node 0;node 0;node 0;link 0 2 1;link 2 3 1;link 1 3 1;link 0 1 1;");
        due("the least node", x.next(0, 3, 0, 0), 1);
        due("though its item is greater", x.next(0, 3, 0, 1), 19);
        due("back too", x.next(3, 0, 0, 0), 1);
        PrivateLinkRouting y = Check.settled(
            "node 0;node 0;node 0;node 0;link 0 1 2;link 1 3 2;link 0 2 1;link 2 3 3;");
        due("costs on the way do not matter", y.next(0, 3, 0, 0), 1);
    }

    private static void leastItem() {
        PrivateLinkRouting x = Check.settled("node 0;node 0;link 0 1 5;link 1 0 4;link 0 1 4;tunnel 0 1 4;");
        due("the least item of the cheapest", x.next(0, 1, 0, 1), 17);
        due("in the other direction", x.next(1, 0, 0, 1), 17);
        x.setLink(1, 1, 5);
        due("the next one", x.next(0, 1, 0, 1), 18);
        x.setLink(2, 1, 5);
        due("the tunnel", x.next(0, 1, 0, 1), 32);
        due("no tunnel back", x.next(1, 0, 0, 1), 16);
    }

    private static void tunnelsHaveADirection() {
        PrivateLinkRouting x = Check.settled("node 0;node 1;node 2;link 0 1 1;link 1 2 20;tunnel 0 2 40;tunnel 0 2 4;");
        due("through the cheaper tunnel", x.distance(0, 2, 0), 4);
        due("its item", x.next(0, 2, 0, 1), 33);
        due("its exit is next", x.next(0, 2, 0, 0), 2);
        due("back over links", x.distance(2, 0, 0), 21);
        due("from node 1 by the tunnel", x.distance(1, 2, 1), 5);
        x.setTunnel(1, 0, 4);
        due("it is down", x.distance(0, 2, 0), 21);
        due("node 1 does not know this", x.distance(1, 2, 1), 5);
    }

    private static void send() {
        PrivateLinkRouting x = Check.settled("node 0;node 1;node 2;node 3;link 0 1 3;link 1 2 4;");
        due("no way by errors", x.way(0), -2);
        due("delivered", x.send(0, 2), 0);
        due("no route", x.send(0, 3), 1);
        due("send is no action", x.count(5), 2);
        x.setLink(1, 0, 4);
        due("dropped on its way", x.send(0, 2), 1);
        due("at the node that knows", x.way(-1), 1);
        due("cost so far", x.way(-2), 3);
    }

    private static void wayIsKept() {
        PrivateLinkRouting x = Check.settled("node 0;node 1;node 2;link 0 1 3;link 1 2 4;");
        x.send(0, 2);
        x.send(0, 0);
        x.outcomes(0);
        x.ideal(0, 1);
        x.worth(0, 1);
        x.distance(1, 0, 0);
        x.append('x');
        x.clearText();
        x.roundsToQuiet();
        x.settle();
        x.setLink(0, 1, 3);
        due("the way is kept", x.way(-1), 2);
        due("its nodes too", x.way(2), 2);
        x.send(1, 0);
        due("the way of the latest packet", x.way(-1), 1);
        x.setLink(0, 1, 4);
        due("gone by an action", x.way(-1), -2);
        x.send(1, 0);
        x.undo();
        due("gone by undo", x.way(-1), -2);
        x.send(1, 0);
        x.load();
        due("gone by load", x.way(-1), -2);
    }

    private static void denied() {
        PrivateLinkRouting x = Check.settled("node 0;node 1;node 1;private 0 1 3;link 1 2 4;grant 0 1;");
        due("with the grant", x.send(2, 0), 0);
        x.setGrant(0, 1, 0);
        due("denied", x.send(2, 0), 3);
        due("at the private link", x.way(-1), 1);
        due("cost so far", x.way(-2), 4);
        due("denied to two nodes", x.outcomes(3), 2);
        due("the owner's packet is not", x.send(0, 2), 0);
        x.settle();
        due("then there is no route", x.send(2, 0), 1);
        due("at once", x.way(-1), 0);
        due("denied to none", x.outcomes(3), 0);
    }

    private static void tunnelHidesPrivateLink() {
        PrivateLinkRouting x = Check.settled("node 0;node 0;node 1;private 0 1 7;link 0 2 2;tunnel 0 1 3;");
        due("the view has the tunnel", x.distance(2, 1, 1), 5);
        due("delivered", x.send(2, 1), 0);
        due("links", x.way(-1), 2);
        due("the cost of links alone", x.way(-2), 9);
        due("way 1", x.way(1), 0);
        due("way 2", x.way(2), 1);
        x.setTunnel(0, 0, 3);
        x.settle();
        due("no tunnel, no route", x.send(2, 1), 1);
    }

    private static void targetInsideOfTunnel() {
        PrivateLinkRouting x = Check.settled("node 0;node 0;node 0;link 0 1 5;link 1 2 1;tunnel 0 2 1;");
        due("through the tunnel to node 1", x.distance(0, 1, 0), 2);
        due("delivered", x.send(0, 1), 0);
        int[] want = {7, 3, 0, 1, 2, 1, -9};
        for (int i = 0; i < want.length; i++) {
            due("through node 1 first " + (i - 2), x.way(i - 2), want[i]);
        }
        due("to the exit", x.send(0, 2), 0);
        due("over two links", x.way(-1), 2);
    }

    private static void noTunnelInsideOfTunnel() {
        PrivateLinkRouting x = Check.settled("node 0;node 0;node 0;link 0 1 5;tunnel 0 2 1;tunnel 1 2 1;");
        due("the view has it", x.distance(0, 2, 0), 1);
        due("there is no way but by tunnels", x.send(0, 2), 1);
        due("nothing is crossed", x.way(-1), 0);
        PrivateLinkRouting y = Check.settled("node 0;node 0;node 0;link 0 1 5;link 1 2 9;tunnel 0 2 7;tunnel 1 2 1;");
        due("a tunnel behind a link", y.send(0, 2), 0);
        due("its links", y.way(-2), 14);
    }

    private static void areaInsideOfTunnel() {
        PrivateLinkRouting x = Check.settled("node 0;node 1;node 1;node 2;"
            + "private 0 2 3;link 0 1 1;link 2 3 1;link 0 3 20;tunnel 0 2 1;");
        due("node 1 takes the tunnel", x.send(1, 2), 0);
        due("over the private link of its entry's area", x.way(-2), 4);
        due("and goes on behind it", x.send(1, 3), 0);
        due("its cost", x.way(-2), 5);
        PrivateLinkRouting y = Check.settled("node 1;node 0;node 0;link 0 1 1;private 1 2 3;tunnel 0 2 1;grant 0 1;");
        y.setGrant(0, 1, 0);
        due("the entry's area loses its grant: the owner's packet is dropped, too", y.send(1, 2), 1);
        due("inside of the tunnel, at the owner's node", y.way(-1), 2);
        due("a packet of the entry", y.send(0, 2), 1);
        due("is dropped there, too", y.way(-1), 1);
    }

    private static void areaBehindTunnel() {
        PrivateLinkRouting x = Check.settled("node 0;node 1;node 0;node 0;"
            + "link 0 1 1;link 0 2 3;private 2 3 1;link 2 3 5;tunnel 0 2 1;");
        due("delivered", x.send(1, 3), 0);
        due("behind the tunnel the area is its own again", x.way(-2), 9);
        due("the entry's packet", x.send(0, 3), 0);
        due("goes over the private link", x.way(-2), 4);
    }

    private static void droppedInsideOfTunnel() {
        PrivateLinkRouting x = Check.settled("node 0;node 0;node 0;link 0 1 5;tunnel 0 2 1;");
        due("dropped inside", x.send(0, 2), 1);
        due("the next packet is not inside", x.send(0, 1), 0);
        due("its way", x.way(-1), 1);
        due("delivered", x.outcomes(0), 2);
    }

    /** All nodes, links and tunnels that there can be: a ring with chords. */
    private static void fullHouse() {
        PrivateLinkRouting x = new PrivateLinkRouting();
        for (int node = 0; node < 10; node++) {
            x.addNode(node % 4);
        }
        for (int link = 0; link < 16; link++) {
            x.addLink(link % 10, (link + 1 + link / 10) % 10, 20, link < 10 ? 0 : 1);
        }
        for (int tunnel = 0; tunnel < 3; tunnel++) {
            x.addTunnel(9 - tunnel, tunnel, 40);
        }
        for (int owner = 0; owner < 4; owner++) {
            for (int area = 0; area < 4; area++) {
                x.setGrant(owner, area, 1);
            }
        }
        due("settle", x.settle(), 4);
        for (int node = 0; node < 10; node++) {
            due("all grants, links and tunnels", x.node(node, 1), 12 + 16 + 3);
            due("nothing is behind", x.node(node, 3), 0);
            due("no secrets", x.node(node, 4), 0);
        }
        due("all are delivered", x.outcomes(0), 90);
        due("over chords", x.ideal(0, 5), 60);
        due("no tunnel is needed", x.distance(0, 5, 0), 60);
        x.setGrant(3, 0, 0);
        due("from nodes 3 and 7 all others are two links away at most", x.settle(), 3);
        due("one private link less for area 0", x.node(0, 1) + x.node(4, 1) + x.node(8, 1), 93 - 3);
        due("the grant of area 1 to area 0", x.worth(1, 0) > 0 ? 1 : 0, 1);
    }

    private static void ideal() {
        PrivateLinkRouting x = Check.loaded("node 0;node 1;node 0;private 0 1 2;link 1 2 9;link 2 0 8;tunnel 1 0 1;");
        due("the owner", x.ideal(0, 1), 2);
        due("another node of the owner", x.ideal(2, 1), 9);
        due("another area, over public links", x.ideal(1, 0), 17);
        due("to itself", x.ideal(1, 1), 0);
        x.setGrant(0, 1, 1);
        due("with the grant, whoever knows", x.ideal(1, 0), 2);
        x.setLink(0, 0, 2);
        due("not over a link that is down", x.ideal(1, 0), 17);
        x.setLink(2, 0, 8);
        due("no way", x.ideal(1, 0), -9);
        x.setLink(1, 1, 1);
        due("with the cost as it is", x.ideal(2, 1), 1);
    }

    private static void worth() {
        PrivateLinkRouting x = Check.loaded(
            "node 0;node 1;node 1;node 0;private 0 1 2;link 1 2 9;link 2 0 8;private 3 0 5;");
        // Without the grant 1 to 0 is 17, 2 to 0 is 8, and 3 cannot be reached.
        // With it 1 to 0 is 2, 1 to 3 is 7, 2 to 0 is 8, 2 to 3 is 13; 1 to 2 is 9, as 2 to 1 is, with or without.
        int want = (17 - 2) + (200 - 7) + (200 - 13);
        due("worth", x.worth(0, 1), want);
        due("area 1 owns nothing", x.worth(1, 0), 0);
        due("no node has area 2", x.worth(0, 2), 0);
        x.setGrant(0, 1, 1);
        due("the same if it is on", x.worth(0, 1), want);
        due("the grant stays on", x.grant(0, 1, 0), 1);
        due("no action but setGrant", x.count(5), 2);
        x.setLink(3, 0, 5);
        due("a link that is down is worth nothing", x.worth(0, 1), 15);
    }
}
