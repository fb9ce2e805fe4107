/** Boundary cases of what nodes know: databases, learning, forgetting, and rounds. */
final class KnowledgeBounds extends Bounds {
    private static final int[] NO_FACT = {0, NONE, NONE, 0};

    KnowledgeBounds(Check check, Sentences sentences) {
        super(check, sentences);
    }

    @Override
    void run() {
        facts();
        mayKnowWhatIsNotPrivate();
        mayKnowAsEndOrOwner();
        mayKnowByGrant();
        learning();
        grantOnMakesNews();
        grantOffForgets();
        grantOffForgetsNews();
        settingLinks();
        linksThatComeUp();
        settingGrants();
        settingTunnels();
        sending();
        sendingAtTheSameTime();
        receivingByItems();
        receivingBySenders(2, 3, 0);
        receivingBySenders(3, 2, 2);
        quiet();
    }

    /** Known version, state, cost, and whether it is news. */
    private static int[] fact(PrivateLinkRouting x, int node, int item) {
        int[] answers = new int[4];
        for (int what = 0; what < 4; what++) {
            answers[what] = x.known(node, item, what);
        }
        return answers;
    }

    private void dueKnown(String what, PrivateLinkRouting x, int item, int... versions) {
        for (int node = 0; node < versions.length; node++) {
            due(what + ", node " + node, x.known(node, item, 0), versions[node]);
        }
    }

    private void dueNews(String what, PrivateLinkRouting x, int... counts) {
        for (int node = 0; node < counts.length; node++) {
            due(what + ", news of node " + node, x.node(node, 2), counts[node]);
        }
    }

    private void facts() {
        says(0, "A fact about an item consists of a version and the state that the item had in this version:");
        PrivateLinkRouting x = Check.settled("node 0;node 1;link 0 1 1;tunnel 0 1 40;");
        x.setTunnel(0, 0, 1);
        dueAll("a tunnel, at its entry", fact(x, 0, 32), 2, 0, 1, 1);
        dueAll("a tunnel, elsewhere", fact(x, 1, 32), 1, 1, 40, 0);
        x.setGrant(0, 1, 1);
        dueAll("a grant", fact(x, 0, 1), 1, 1, 0, 1);
        x.settle();
        x.setGrant(0, 1, 0);
        dueAll("a grant that is off", fact(x, 0, 1), 2, 0, 0, 1);
        dueAll("a grant, elsewhere", fact(x, 1, 1), 1, 1, 0, 0);

        says(0, "Each node has a database, which contains at most one fact about each item;");
        PrivateLinkRouting y = Check.loaded("node 0;node 1;link 0 1 1;");
        y.setLink(0, 1, 2);
        y.setLink(0, 0, 2);
        dueAll("facts at both ends", new int[] {y.node(0, 1), y.node(1, 1)}, 1, 1);
        due("the facts of all items that can be", Scene.FULL.make().node(9, 1), 12 + 16 + 3);

        says(0, "the known version of an item is that of the fact, or 0 if there is none.");
        PrivateLinkRouting z = Check.loaded("node 0;node 1;node 2;link 0 1 1;tunnel 0 1 1;");
        z.setLink(0, 1, 20);
        z.setGrant(1, 2, 1);
        dueKnown("a link", z, 16, 2, 2, 0);
        dueKnown("a tunnel", z, 32, 1, 0, 0);
        dueKnown("a grant", z, 6, 0, 1, 0);
        dueKnown("a grant that was never set", z, 1, 0, 0, 0);
    }

    private void mayKnowWhatIsNotPrivate() {
        says(0, "A node may know an item if the item is no private link;");
        PrivateLinkRouting x = Check.settled(
            "node 0;node 1;node 2;link 0 1 1;link 1 2 1;tunnel 0 1 1;grant 0 1;private 0 1 1;");
        dueKnown("a public link of others", x, 16, 1, 1, 1);
        dueKnown("a tunnel of others", x, 32, 1, 1, 1);
        dueKnown("a grant of others", x, 1, 1, 1, 1);
        dueKnown("a private link of others", x, 18, 1, 1, 0);
    }

    private void mayKnowAsEndOrOwner() {
        says(0, "or if the node is an end of this link, or belongs to the area of its owner;");
        PrivateLinkRouting x = Check.settled("node 0;node 1;node 0;node 1;private 0 1 1;link 1 2 1;link 1 3 1;");
        dueKnown("first end, second end, the owner's area, the second end's area", x, 16, 1, 1, 1, 0);
    }

    private void mayKnowByGrant() {
        says(0, "or if its database has the fact that the grant of the owner to the area of the node is on.");
        PrivateLinkRouting x = Check.settled("node 0;node 1;node 1;private 0 1 1;link 0 1 1;link 1 2 1;");
        x.setGrant(0, 1, 1);
        x.setLink(0, 1, 5);
        x.step(1);
        dueKnown("the grant is on its way", x, 1, 1, 1, 0);
        dueKnown("the link came, but the grant was not known", x, 16, 2, 2, 0);
        x.step(1);
        dueKnown("the grant is known", x, 1, 1, 1, 1);
        dueKnown("with the grant, the link", x, 16, 2, 2, 2);
        x.settle();
        x.setGrant(0, 1, 0);
        x.setLink(0, 1, 6);
        x.step(1);
        dueKnown("the grant is off, but not known to be", x, 1, 2, 2, 1);
        dueKnown("so the link is learned", x, 16, 3, 3, 3);
        x.step(1);
        dueKnown("the grant is known to be off", x, 1, 2, 2, 2);
        dueKnown("so the link is forgotten", x, 16, 3, 3, 0);
        x.setLink(0, 1, 7);
        x.settle();
        dueKnown("and not learned any more", x, 16, 4, 4, 0);
    }

    private void learning() {
        says(0, "if it may not know the item, or the known version is not less than that of the fact, nothing");
        PrivateLinkRouting x = Check.settled("node 0;node 0;node 1;link 1 2 1;private 0 1 1;");
        x.setLink(1, 1, 2);
        x.step(1);
        dueAll("it may not know the item", fact(x, 2, 17), NO_FACT);
        dueNews("it may not know the item", x, 0, 0, 0);
        due("the same version: both ends send it, and all is quiet",
            Check.loaded("node 0;node 0;link 0 1 1;").settle(), 1);
        PrivateLinkRouting y = Check.settled("node 0;node 0;node 0;link 0 1 1;link 1 2 1;tunnel 0 2 4;");
        y.setTunnel(0, 1, 5);
        y.step(1);
        y.setTunnel(0, 1, 6);
        y.step(1);
        dueAll("the older version, which came back", fact(y, 0, 32), 3, 1, 6, 0);

        says(0, "Otherwise the fact comes into the database, in place of an older one, and the item is news there.");
        dueAll("the next version", fact(y, 1, 32), 3, 1, 6, 1);
        dueAll("the version before it, one node further", fact(y, 2, 32), 2, 1, 5, 1);
        dueAll("as many facts as before", new int[] {y.node(1, 1), y.node(2, 1)}, 3, 3);
        PrivateLinkRouting z = Check.settled("node 0;node 0;link 0 1 1;");
        z.addTunnel(0, 1, 7);
        z.step(1);
        dueAll("in place of none", fact(z, 1, 32), 1, 1, 7, 1);
    }

    private void grantOnMakesNews() {
        says(0, "and is on in this fact, then all private links of O in the database become news there, too;");
        PrivateLinkRouting x = Check.settled(
            "node 0;node 0;node 1;private 0 1 1;private 2 0 1;link 0 1 1;link 0 2 1;private 0 1 9;");
        x.setGrant(0, 3, 1);
        dueNews("the grant and two private links; none elsewhere", x, 3, 3, 0);
        dueAll("the owner's links", new int[] {x.known(0, 16, 3), x.known(1, 20, 3)}, 1, 1);
        dueAll("another owner's, and a public one", new int[] {x.known(0, 17, 3), x.known(0, 18, 3)}, 0, 0);
        x.step(1);
        dueNews("the grant alone, where no private link of the owner is known", x, 0, 0, 1);
        x.settle();
        x.setGrant(0, 3, 0);
        dueNews("off: the grant alone", x, 1, 1, 0);
    }

    /** Node 1 is an end of link 0, node 2 has the grant, and node 3 has a grant of its own. */
    private static PrivateLinkRouting disclosed() {
        return Check.settled("node 0;node 1;node 1;node 2;private 0 1 1;private 1 2 1;link 1 2 1;link 2 3 1;"
            + "grant 0 1;grant 0 2;");
    }

    private void grantOffForgets() {
        says(0, "then the facts about all private links of O of which the node is no end are removed");
        PrivateLinkRouting x = disclosed();
        x.addLink(0, 1, 2, 1);
        x.settle();
        dueKnown("link 0 before", x, 16, 1, 1, 1, 1);
        dueKnown("link 4 before", x, 20, 1, 1, 1, 1);
        x.setGrant(0, 1, 0);
        x.step(1);
        dueNews("the grant is news to the end", x, 0, 1, 0, 0);
        x.step(1);
        dueNews("the grant, and nothing else, is news where links are forgotten", x, 0, 0, 1, 0);
        x.settle();
        dueKnown("link 0", x, 16, 1, 1, 0, 1);
        dueKnown("link 4", x, 20, 1, 1, 0, 1);
        dueKnown("a link of the area itself", x, 17, 0, 1, 1, 0);
        dueKnown("a public link", x, 18, 1, 1, 1, 1);

        says(0, "the known versions are 0 then).");
        dueAll("no fact", fact(x, 2, 16), NO_FACT);
        x.setGrant(0, 1, 1);
        x.settle();
        dueAll("so that version 1 is learned again", fact(x, 2, 16), 1, 1, 1, 0);
        PrivateLinkRouting full = Scene.FULL.make();
        full.setGrant(3, 0, 0);
        full.settle();
        dueAll("of all links that can be, those of area 3", new int[] {full.node(0, 1), full.node(1, 1)}, 30, 31);
    }

    private void grantOffForgetsNews() {
        says(0, "are removed from the database (with the news about them;");
        PrivateLinkRouting x = farAndNear(2, 3);
        x.setGrant(0, 1, 0);
        x.setGrant(0, 1, 1);
        x.step(1);
        x.setGrant(0, 1, 0);
        x.setLink(3, 1, 1);
        x.step(1);
        dueKnown("one sender knows that it is on again, the other one that it is off", x, 1, 4, 4, 3, 4, 1);
        x.step(1);
        dueKnown("the receiver heard that it is on, and off", x, 1, 4, 4, 4, 4, 4);
        dueAll("on made the link news, off removed this", fact(x, 4, 21), NO_FACT);
    }

    private void settingLinks() {
        says(0, "When a link is added or set, first its first end and then its second end learn the new fact about");
        PrivateLinkRouting x = Check.loaded("node 0;node 1;node 0;");
        x.addLink(1, 0, 20, 1);
        dueKnown("added", x, 16, 1, 1, 0);
        x.setLink(0, 0, 1);
        dueKnown("set", x, 16, 2, 2, 0);
        dueAll("at the first end", fact(x, 1, 16), 2, 0, 1, 1);
        dueAll("at the second end", fact(x, 0, 16), 2, 0, 1, 1);
    }

    private void linksThatComeUp() {
        says(0, "If it was just added as up, or was down and is up now, then all items in the databases of both ends");
        PrivateLinkRouting x = Check.settled("node 0;node 0;node 0;link 0 1 1;link 1 2 1;");
        x.setLink(0, 1, 2);
        dueNews("up before and now", x, 1, 1, 0);
        x.settle();
        x.setLink(0, 0, 2);
        dueNews("goes down", x, 1, 1, 0);
        x.settle();
        x.setLink(0, 0, 3);
        dueNews("down before and now", x, 1, 1, 0);
        x.settle();
        x.setLink(0, 1, 3);
        dueNews("comes up", x, 2, 2, 0);
        x.settle();
        x.addLink(0, 2, 1, 0);
        dueNews("added", x, 3, 0, 3);
        PrivateLinkRouting y = Check.loaded("node 0;node 0;node 0;");
        y.addLink(0, 2, 1, 1);
        dueNews("added where nothing was known", y, 1, 0, 1);
        PrivateLinkRouting z = Check.settled("node 0;node 0;node 0;link 1 2 1;link 2 1 1;");
        z.setLink(1, 1, 2);
        dueNews("up before and now, though node 0 knows nothing of it", z, 0, 1, 1);
    }

    private void settingGrants() {
        says(0, "all nodes of its first area O learn the new fact about it, in ascending order (all other nodes only");
        PrivateLinkRouting x = Check.loaded("node 1;node 0;node 1;node 2;link 0 3 1;");
        x.setGrant(1, 2, 1);
        dueKnown("set on", x, 6, 1, 0, 1, 0);
        x.setGrant(1, 2, 0);
        dueKnown("set off", x, 6, 2, 0, 2, 0);
        x.step(1);
        dueKnown("after a round", x, 6, 2, 0, 2, 2);
        x.settle();
        x.setGrant(3, 1, 1);
        dueKnown("where the area has no nodes", x, 13, 0, 0, 0, 0);
        due("nothing is news", x.roundsToQuiet(), 0);
    }

    private void settingTunnels() {
        says(0, "When a tunnel is added or set, its entry learns the new fact about it.");
        PrivateLinkRouting x = Check.loaded("node 0;node 0;node 0;");
        x.addTunnel(1, 0, 40);
        dueKnown("added", x, 32, 0, 1, 0);
        dueNews("added", x, 0, 1, 0);
        x.setTunnel(0, 0, 1);
        dueKnown("set", x, 32, 0, 2, 0);
    }

    private void sending() {
        says(0, "over each link that is up and of which it is an end, to the other end;");
        PrivateLinkRouting x = Check.settled("node 0;node 0;node 0;node 0;link 0 1 1;link 1 2 1;link 2 1 1;");
        x.addTunnel(1, 0, 1);
        due("one item over three links", x.step(1), 3);
        dueKnown("the other ends have it", x, 32, 1, 1, 1, 0);
        x.settle();
        x.setLink(1, 0, 1);
        due("one item at each end, over the links that are left", x.step(1), 2 + 1);
        x.settle();
        x.setLink(2, 0, 1);
        x.settle();
        x.setTunnel(0, 1, 2);
        due("over the last one", x.step(1), 1);
        dueKnown("node 2 has no link", x, 32, 2, 2, 1, 0);

        says(0, "each fact that is sent over a link is one message (also if the node at the other end may not know");
        PrivateLinkRouting y = Check.settled("node 0;node 0;node 1;link 0 2 1;private 0 1 2;");
        y.setLink(1, 1, 3);
        due("node 0 has two links, node 1 one", y.step(1), 3);
        due("not to know", y.known(2, 17, 0), 0);
        PrivateLinkRouting z = Check.loaded("node 0;node 0;");
        z.addTunnel(0, 1, 1);
        due("no link, no message", z.step(1), 0);

        says(0, "the node learns what it receives.");
        PrivateLinkRouting w = Check.settled("node 0;node 0;link 0 1 1;");
        w.addTunnel(0, 1, 3);
        w.setTunnel(0, 0, 4);
        w.step(1);
        dueAll("the fact as it was sent", fact(w, 1, 32), 2, 0, 4, 1);
    }

    private void sendingAtTheSameTime() {
        says(0, "All these messages are sent at the same time, and nothing in any database is news then.");
        // Node 0 receives first; what it learns goes on in the next round only.
        PrivateLinkRouting x = Check.settled("node 0;node 0;node 0;link 0 1 1;link 0 2 1;");
        x.addTunnel(2, 1, 5);
        x.step(1);
        dueKnown("one link far", x, 32, 1, 0, 1);
        dueNews("news where it came", x, 1, 0, 0);
        x.setTunnel(0, 1, 6);
        x.step(1);
        dueKnown("node 0 sent what it knew before it received", x, 32, 2, 1, 2);
        dueAll("with the old cost", fact(x, 1, 32), 1, 1, 5, 1);
    }

    private void receivingByItems() {
        says(0, "each node by ascending numbers of the items, and for each item by ascending numbers of the senders");
        PrivateLinkRouting x = Check.settled("node 0;node 1;node 0;private 0 2 1;link 0 1 1;");
        x.setGrant(0, 1, 1);
        x.step(1);
        dueKnown("on, then the private link, in the same round", x, 16, 1, 1, 1);
        x.settle();
        x.setLink(0, 1, 9);
        x.setGrant(0, 1, 0);
        x.step(1);
        dueKnown("off, and then the private link, in the same round", x, 16, 2, 0, 2);
    }

    /**
     * Node 4 of area 1 has the grant of area 0, and knows the private link 5, which is down. A fact
     * about the grant takes two rounds to one of the nodes 2 and 3 ("far"), and one round to the
     * other one ("near") as soon as link 3 is up again; both are linked to node 4.
     */
    private static PrivateLinkRouting farAndNear(int far, int near) {
        PrivateLinkRouting x = Check.loaded("node 0;node 3;node 2;node 2;node 1;link 0 1 1;");
        x.addLink(1, far, 1, 0);
        x.addLink(far, 4, 1, 0);
        x.addLink(0, near, 1, 0);
        x.addLink(near, 4, 1, 0);
        x.addLink(0, far, 1, 1);
        x.setGrant(0, 1, 1);
        x.settle();
        x.setLink(5, 0, 1);
        x.settle();
        x.setLink(3, 0, 1);
        x.settle();
        return x;
    }

    /** If off comes before on, the private link is forgotten; if on comes first, off is old already. */
    private void receivingBySenders(int far, int near, int want) {
        says(0, "each node by ascending numbers of the items, and for each item by ascending numbers of the senders");
        PrivateLinkRouting x = farAndNear(far, near);
        due("the private link is known", x.known(4, 21, 0), 2);
        x.setGrant(0, 1, 0);
        x.step(1);
        x.setGrant(0, 1, 1);
        x.setLink(3, 1, 1);
        x.step(1);
        due("one sender knows version 2", x.known(far, 1, 0), 2);
        due("the other one knows version 3", x.known(near, 1, 0), 3);
        due("the receiver knows version 1", x.known(4, 1, 0), 1);
        x.step(1);
        due("the receiver knows version 3", x.known(4, 1, 0), 3);
        due("the private link behind off and on", x.known(4, 21, 0), want);
        x.settle();
        due("it comes back", x.known(4, 21, 0), 2);
    }

    private void quiet() {
        says(0, "The network is quiet if nothing is news in any database.");
        PrivateLinkRouting x = Check.loaded("node 0;node 1;node 2;");
        due("no facts", x.settle(), ILLEGAL);
        x.addTunnel(2, 0, 1);
        due("one item at the last node, and no link", x.roundsToQuiet(), 1);
        due("a round", x.settle(), 1);
        due("quiet", x.settle(), ILLEGAL);
        PrivateLinkRouting y = Check.settled("node 0;node 1;link 0 1 1;");
        dueNews("quiet", y, 0, 0);
        due("quiet", y.step(1), ILLEGAL);
        y.setGrant(1, 0, 1);
        due("one item at the second node", y.step(1), 1);
        due("news at the first node", y.roundsToQuiet(), 1);
    }
}
