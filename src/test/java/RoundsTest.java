/** Stories of how facts spread, are disclosed and are forgotten, and of undo. */
public final class RoundsTest {
    private static final Check CHECK = new Check("RoundsTest");

    public static void main(String[] args) {
        messagesGoOverEachLink();
        messagesAreSentAtTheSameTime();
        linksThatAreDownCarryNothing();
        privateLinksStayInTheirArea();
        grantsDisclose();
        grantsAreRevoked();
        endsForgetNothing();
        othersForgetNothing();
        undoRestoresAll();
        CHECK.end();
    }

    private static void due(String what, int got, int want) {
        CHECK.due(what, got, want);
    }

    private static void messagesGoOverEachLink() {
        PrivateLinkRouting x = Check.loaded("node 0;node 1;link 0 1 1;link 1 0 2;private 0 1 3;");
        due("3 items over 3 links in 2 directions", x.step(1), 18);
        due("nothing is learned", x.roundsToQuiet(), 0);
        PrivateLinkRouting y = Check.settled("node 0;node 0;node 1;link 0 2 1;private 0 1 2;");
        y.setLink(1, 1, 3);
        due("a message also to the one that may not know it", y.step(1), 3);
        due("it does not know it", y.known(2, 17, 0), 0);
    }

    private static void messagesAreSentAtTheSameTime() {
        // Node 0 stands between 2 and 1, and receives before 1 does.
        PrivateLinkRouting x = Check.settled("node 0;node 0;node 0;link 0 1 1;link 0 2 1;");
        x.addTunnel(2, 1, 5);
        x.step(1);
        due("one hop", x.known(0, 32, 0), 1);
        due("not two", x.known(1, 32, 0), 0);
        x.setTunnel(0, 1, 6);
        x.step(1);
        due("node 0 has the new one", x.known(0, 32, 0), 2);
        due("node 1 has the old one", x.known(1, 32, 0), 1);
        due("with the old cost", x.known(1, 32, 2), 5);
        due("it is news at node 1", x.known(1, 32, 3), 1);
        x.step(1);
        due("node 1 has the new one", x.known(1, 32, 2), 6);
        x.settle();
        due("old versions change nothing", x.known(0, 32, 0) + x.known(1, 32, 0) + x.known(2, 32, 0), 6);
    }

    private static void linksThatAreDownCarryNothing() {
        PrivateLinkRouting x = Check.settled("node 0;node 0;node 0;link 0 1 1;link 1 2 1;");
        x.setLink(1, 0, 1);
        due("one link carries it", x.step(1), 1);
        x.settle();
        x.setLink(0, 1, 7);
        x.settle();
        due("node 2 does not hear of it", x.known(2, 16, 2), 1);
        due("it is behind", x.node(2, 3), 1);
        x.setLink(1, 1, 1);
        due("all goes over it when it is up", x.step(1), 4 + 2);
        due("node 2 hears of it", x.known(2, 16, 2), 7);
        due("nothing is behind", x.node(2, 3), 0);
    }

    private static void privateLinksStayInTheirArea() {
        PrivateLinkRouting x = Check.settled("node 0;node 0;node 1;node 0;node 1;"
            + "private 0 1 2;link 1 2 1;link 2 3 1;private 4 0 5;");
        due("the owner's node knows", x.known(1, 16, 0), 1);
        due("another area does not", x.known(2, 16, 0), 0);
        due("the owner's node behind it does not", x.known(3, 16, 0), 0);
        due("and is behind", x.node(3, 3), 1);
        due("the second end knows", x.known(0, 19, 0), 1);
        due("its area does not", x.known(1, 19, 0), 0);
        due("which is not behind", x.node(1, 3), 0);
    }

    private static void grantsDisclose() {
        PrivateLinkRouting x = Check.settled("node 0;node 0;node 1;node 2;private 0 1 2;link 1 2 1;link 1 3 1;");
        x.setGrant(0, 1, 1);
        due("the node of area 1 is behind", x.node(2, 3), 2);
        due("the node of area 2 too", x.node(3, 3), 1);
        x.step(1);
        due("grant and link come in the same round", x.known(2, 16, 0), 1);
        due("the grant is news", x.known(2, 1, 3), 1);
        due("the link is news", x.known(2, 16, 3), 1);
        due("area 2 learns the grant", x.known(3, 1, 1), 1);
        due("but not the link", x.known(3, 16, 0), 0);
        due("no node has secrets", x.node(2, 4) + x.node(3, 4), 0);
    }

    private static void grantsAreRevoked() {
        PrivateLinkRouting x = Check.settled("node 0;node 1;node 1;grant 0 1;private 0 1 2;link 0 1 1;link 1 2 1;");
        due("disclosed", x.known(2, 16, 0), 1);
        x.setLink(0, 1, 3);
        x.setGrant(0, 1, 0);
        due("a secret", x.node(2, 4), 1);
        due("an end has no secret", x.node(1, 4), 0);
        x.step(1);
        due("still known, and told of the new cost", x.known(2, 16, 0), 2);
        due("it is news there", x.known(2, 16, 3), 1);
        x.step(1);
        due("forgotten", x.known(2, 16, 0), 0);
        due("state of no fact", x.known(2, 16, 1), -9);
        due("cost of no fact", x.known(2, 16, 2), -9);
        due("no news about it", x.known(2, 16, 3), 0);
        due("facts left", x.node(2, 1), 3);
        due("no secret any more", x.node(2, 4), 0);
        due("the grant is off there", x.known(2, 1, 1), 0);
        x.setGrant(0, 1, 1);
        x.settle();
        due("disclosed again", x.known(2, 16, 2), 3);
        due("the grant's version", x.known(2, 1, 0), 3);
    }

    private static void endsForgetNothing() {
        PrivateLinkRouting x = Check.settled("node 0;node 1;node 0;grant 0 1;private 0 1 2;private 0 2 2;link 0 1 1;");
        due("both are known", x.node(1, 1), 4);
        x.setGrant(0, 1, 0);
        x.settle();
        due("the own one is kept", x.known(1, 16, 0), 1);
        due("the other one is forgotten", x.known(1, 17, 0), 0);
        due("the public one is kept", x.known(1, 18, 0), 1);
    }

    private static void othersForgetNothing() {
        PrivateLinkRouting x = Check.settled(
            "node 0;node 0;node 2;node 1;grant 0 1;grant 0 2;private 0 1 2;private 2 3 1;link 1 2 1;link 1 3 1;");
        due("areas 1 and 2 know it", x.known(2, 16, 0) + x.known(3, 16, 0), 2);
        x.setGrant(0, 1, 0);
        x.settle();
        due("area 2 keeps it", x.known(2, 16, 0), 1);
        due("area 1 forgets it", x.known(3, 16, 0), 0);
        due("area 2 knows that area 1 has no grant", x.known(2, 1, 1), 0);
        due("area 1 keeps links of other owners", x.known(3, 17, 0), 1);
    }

    private static void undoRestoresAll() {
        PrivateLinkRouting x = Check.settled("node 0;node 0;node 1;private 0 1 2;link 1 2 1;tunnel 2 0 4;grant 0 1;");
        int messages = x.count(4);
        Check.type(x, "abc");
        x.setLink(0, 0, 9);
        x.setTunnel(0, 0, 9);
        x.setGrant(0, 1, 0);
        x.settle();
        x.send(2, 1);
        due("forgotten", x.known(2, 16, 0), 0);
        due("undo", x.undo(), 4);
        due("the way is gone", x.way(0), -2);
        due("known again", x.known(2, 16, 0), 1);
        due("news again", x.known(0, 16, 3), 1);
        x.undo();
        x.undo();
        x.undo();
        due("link", x.link(0, 2) + 10 * x.link(0, 3) + 100 * x.link(0, 5), 112);
        due("tunnel", x.tunnel(0, 2) + 10 * x.tunnel(0, 3) + 100 * x.tunnel(0, 4), 114);
        due("grant", x.grant(0, 1, 0) + 10 * x.grant(0, 1, 1), 11);
        due("messages", x.count(4), messages);
        due("quiet", x.roundsToQuiet(), 0);
        due("the text stays", x.count(6), 3);
        due("the oldest one", x.undo(), 0);
        x.send(2, 1);
        due("an undo that fails", x.undo(), -2);
        due("keeps the way", x.way(0), 2);
    }
}
