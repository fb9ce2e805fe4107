/** Promises 15 to 20: looking at things. */
public final class LookingTest {
    private static final Check CHECK = new Check("LookingTest");

    public static void main(String[] args) {
        PrivateLinkRouting x = Check.settled("node 2;node 1;node 3;node 1;"
            + "private 0 1 7;link 1 2 20;link 2 3 4;tunnel 2 0 40;grant 2 1;");
        count(x);
        node(x);
        link(x);
        tunnel(x);
        grant(x);
        known(x);
        itemsThatDoNotExist();
        behindAndSecrets();
        CHECK.end();
    }

    private static void due(String what, int got, int want) {
        CHECK.due(what, got, want);
    }

    private static void count(PrivateLinkRouting x) {
        Check.type(x, "hello");
        int[] want = {4, 3, 1, 1, x.count(4), 2, 5};
        for (int what = 0; what < 7; what++) {
            due("count " + what, x.count(what), want[what]);
        }
        due("count -1", x.count(-1), -1);
        due("count 7", x.count(7), -1);
        x.setGrant(0, 1, 1);
        x.setGrant(3, 0, 1);
        due("grants on", x.count(3), 3);
        x.setGrant(0, 1, 0);
        due("grants on, one off", x.count(3), 2);
        due("states", x.count(5), 5);
        x.undo();
        x.undo();
        x.undo();
        due("looking is no action", x.count(5), 2);
    }

    private static void node(PrivateLinkRouting x) {
        due("node -1", x.node(-1, 0), -1);
        due("node 4", x.node(4, 0), -1);
        due("what -1", x.node(0, -1), -1);
        due("what 5", x.node(0, 5), -1);
        int[] areas = {2, 1, 3, 1};
        // Node 2 alone may not know the private link; node 3 has the grant, but only node 2 to hear it from.
        int[] facts = {5, 5, 4, 4};
        int[] behind = {0, 0, 0, 1};
        for (int node = 0; node < 4; node++) {
            due("area of " + node, x.node(node, 0), areas[node]);
            due("facts of " + node, x.node(node, 1), facts[node]);
            due("news of " + node, x.node(node, 2), 0);
            due("behind at " + node, x.node(node, 3), behind[node]);
            due("secrets of " + node, x.node(node, 4), 0);
        }
    }

    private static void link(PrivateLinkRouting x) {
        int[][] want = {{0, 1, 7, 1, 1, 1}, {1, 2, 20, 1, 0, 1}, {2, 3, 4, 1, 0, 1}};
        for (int link = 0; link < 3; link++) {
            for (int what = 0; what < 6; what++) {
                due("link " + link + " " + what, x.link(link, what), want[link][what]);
            }
        }
        due("link -1", x.link(-1, 0), -1);
        due("link 3", x.link(3, 0), -1);
        due("what -1", x.link(0, -1), -1);
        due("what 6", x.link(0, 6), -1);
    }

    private static void tunnel(PrivateLinkRouting x) {
        int[] want = {2, 0, 40, 1, 1};
        for (int what = 0; what < 5; what++) {
            due("tunnel " + what, x.tunnel(0, what), want[what]);
        }
        due("tunnel -1", x.tunnel(-1, 0), -1);
        due("tunnel 1", x.tunnel(1, 0), -1);
        due("what -1", x.tunnel(0, -1), -1);
        due("what 5", x.tunnel(0, 5), -1);
    }

    private static void grant(PrivateLinkRouting x) {
        due("on", x.grant(2, 1, 0), 1);
        due("version", x.grant(2, 1, 1), 1);
        due("the other way", x.grant(1, 2, 0), 0);
        due("its version", x.grant(1, 2, 1), 0);
        due("the same", x.grant(1, 1, 0), -1);
        due("owner -1", x.grant(-1, 1, 0), -1);
        due("owner 4", x.grant(4, 1, 0), -1);
        due("area -1", x.grant(1, -1, 0), -1);
        due("area 4", x.grant(1, 4, 0), -1);
        due("what -1", x.grant(2, 1, -1), -1);
        due("what 2", x.grant(2, 1, 2), -1);
    }

    private static void known(PrivateLinkRouting x) {
        due("node -1", x.known(-1, 16, 0), -1);
        due("node 4", x.known(4, 16, 0), -1);
        for (int item : new int[] {-1, 0, 5, 10, 15, 19, 31, 33, 34, 35, Integer.MIN_VALUE, Integer.MAX_VALUE}) {
            due("no item " + item, x.known(0, item, 0), -1);
        }
        due("what -1", x.known(0, 16, -1), -1);
        due("what 4", x.known(0, 16, 4), -1);
        int[] grant = {1, 1, 0, 0};
        int[] tunnel = {1, 1, 40, 0};
        int[] unknown = {0, -9, -9, 0};
        for (int what = 0; what < 4; what++) {
            due("a grant, " + what, x.known(3, 9, what), grant[what]);
            due("a tunnel, " + what, x.known(1, 32, what), tunnel[what]);
            due("a grant that was never set, " + what, x.known(1, 6, what), unknown[what]);
            due("a private link of others, " + what, x.known(2, 16, what), unknown[what]);
        }
        x.setLink(1, 0, 3);
        int[] down = {2, 0, 3, 1};
        int[] old = {1, 1, 20, 0};
        for (int what = 0; what < 4; what++) {
            due("a link that is down, " + what, x.known(2, 17, what), down[what]);
            due("what others know of it, " + what, x.known(3, 17, what), old[what]);
        }
    }

    private static void itemsThatDoNotExist() {
        PrivateLinkRouting x = Check.loaded("node 0;");
        for (int item = -1; item < 40; item++) {
            boolean isGrant = item >= 0 && item < 16 && item / 4 != item % 4;
            due("item " + item, x.known(0, item, 0), isGrant ? 0 : -1);
        }
    }

    private static void behindAndSecrets() {
        PrivateLinkRouting x = Check.settled("node 0;node 1;node 1;node 0;private 0 1 2;link 1 2 1;");
        due("node 2 is not behind", x.node(2, 3), 0);
        due("node 3, alone, is behind by the owner's link and the public one", x.node(3, 3), 2);
        x.setGrant(0, 1, 1);
        due("node 0 has learned the grant", x.node(0, 3), 0);
        due("node 1 is behind by the grant", x.node(1, 3), 1);
        due("node 2 is behind by grant and link", x.node(2, 3), 2);
        x.settle();
        due("node 2 knows all", x.node(2, 3), 0);
        due("no secret", x.node(2, 4), 0);
        x.setLink(0, 1, 3);
        due("an older version is behind", x.node(2, 3), 1);
        x.setGrant(0, 1, 0);
        due("a secret is not behind: the grant is", x.node(2, 3), 1);
        due("a secret", x.node(2, 4), 1);
        due("no secret of an end", x.node(1, 4), 0);
        due("no secret of the owner", x.node(0, 4), 0);
    }
}
