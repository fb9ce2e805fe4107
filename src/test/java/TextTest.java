/** Promises 8 to 10: the text, and how it is read. */
public final class TextTest {
    private static final Check CHECK = new Check("TextTest");

    public static void main(String[] args) {
        append();
        clearText();
        loadIsAnAction();
        loadsLeaveNothingBehind();
        loadKeepsOrder();
        spaces();
        numbers();
        words();
        nodes();
        lines();
        grants();
        room();
        ends();
        CHECK.end();
    }

    private static void due(String what, int got, int want) {
        CHECK.due(what, got, want);
    }

    /** What load() answers to a text, and that it keeps the text exactly then when this is an error. */
    private static void load(String text, int want) {
        PrivateLinkRouting x = new PrivateLinkRouting();
        Check.type(x, text);
        due("load of '" + text + "'", x.load(), want);
        due("text left of '" + text + "'", x.count(6), want < 0 ? text.length() : 0);
        due("history after '" + text + "'", x.count(5), want < 0 ? 0 : 1);
        if (want < 0) {
            due("nodes after '" + text + "'", x.count(0), 0);
        }
    }

    private static void wrongAt(String text, int position) {
        load(text, -10 - position);
    }

    private static void append() {
        PrivateLinkRouting x = new PrivateLinkRouting();
        due("append(0)", x.append(0), -1);
        due("append(256)", x.append(256), -1);
        due("append(-1)", x.append(-1), -1);
        for (int i = 1; i <= 120; i++) {
            due("append", x.append(i % 2 == 0 ? 255 : 1), i);
        }
        due("a 121st character", x.append(65), -3);
        due("a 121st character, a wrong one", x.append(0), -1);
        due("length", x.count(6), 120);
        due("no action", x.count(5), 0);
    }

    private static void clearText() {
        PrivateLinkRouting x = new PrivateLinkRouting();
        due("clearText of nothing", x.clearText(), 0);
        Check.type(x, "node 0");
        due("clearText", x.clearText(), 6);
        due("clearText again", x.clearText(), 0);
        Check.type(x, "node 3;");
        due("load after it", x.load(), 1);
        due("the area", x.node(0, 0), 3);
        Check.type(x, "abc");
        x.undo();
        due("the text is no part of the state", x.count(6), 3);
    }

    private static void loadIsAnAction() {
        PrivateLinkRouting x = Check.settled("node 0;node 1;node 1;link 0 1 3;tunnel 1 2 2;grant 2 1;");
        int messages = x.count(4);
        due("messages were sent", messages > 0 ? 1 : 0, 1);
        x.send(0, 1);
        Check.type(x, "node 2;");
        due("typing keeps the way", x.way(-1), 1);
        due("load", x.load(), 1);
        due("nodes", x.count(0), 1);
        due("links", x.count(1), 0);
        due("tunnels", x.count(2), 0);
        due("grants", x.count(3), 0);
        due("the grant's version", x.grant(2, 1, 1), 0);
        due("messages", x.count(4), 0);
        due("states", x.count(5), 3);
        due("facts", x.node(0, 1), 0);
        due("the way is gone", x.way(-1), -2);
        due("undo", x.undo(), 2);
        due("nodes again", x.count(0), 3);
        due("messages again", x.count(4), messages);
        due("an empty text", x.load(), 0);
        due("no nodes", x.count(0), 0);
        due("states again", x.count(5), 3);
    }

    private static void loadsLeaveNothingBehind() {
        PrivateLinkRouting x = new PrivateLinkRouting();
        String wrong = "node 0;node 1;grant 0 1;link 0 1 1;tunnel 0 1 1;";
        Check.type(x, wrong + "?");
        due("a wrong text", x.load(), -10 - wrong.length());
        due("wrong again", x.load(), -10 - wrong.length());
        x.clearText();
        Check.type(x, "node 0;node 0;grant 0 1;");
        due("a right text behind it", x.load(), 3);
        due("facts", x.node(0, 1), 1);
        due("news", x.node(0, 2), 1);
        due("news of the other one", x.node(1, 2), 1);
        due("the grant's version", x.grant(0, 1, 1), 1);
        due("links", x.count(1), 0);
        due("tunnels", x.count(2), 0);
        x.addLink(0, 1, 1, 0);
        due("the link's version", x.link(0, 5), 1);
        due("messages", x.step(1), 4);
        x.addTunnel(0, 1, 1);
        x.roundsToQuiet();
        due("an empty text", x.load(), 0);
        due("no messages", x.count(4), 0);
        x.addNode(1);
        due("no news", x.node(0, 2), 0);
    }

    private static void loadKeepsOrder() {
        PrivateLinkRouting x = Check.loaded("node 0;grant 0 1;node 0;node 1;private 0 2 4;link 2 1 20;tunnel 2 0 40;");
        due("the node before the grant knows it", x.known(0, 1, 0), 1);
        due("the one behind it does not", x.known(1, 1, 0), 0);
        due("private", x.link(0, 4), 1);
        due("first", x.link(0, 0), 0);
        due("second", x.link(0, 1), 2);
        due("public", x.link(1, 4), 0);
        due("cost", x.link(1, 2), 20);
        due("entry", x.tunnel(0, 0), 2);
        due("exit", x.tunnel(0, 1), 0);
        due("tunnel's cost", x.tunnel(0, 2), 40);
        due("news of node 2", x.node(2, 2), 3);
    }

    private static void spaces() {
        load("", 0);
        load("   ", 0);
        load("node0;", 1);
        load("  node   0  ;  node 1;  ", 2);
        load("node0;node1;link0 1 5;", 3);
        load("node0;node1;link 0  1 5;private 1 0 5;grant0 1;tunnel1 0 5;", 6);
        wrongAt("no de 0;", 0);
        wrongAt("node\t0;", 4);
        wrongAt("node 0;\n", 7);
        wrongAt("node 0;node 1;link 01 5;", 19);
        wrongAt("nodenode 0;", 0);
    }

    private static void numbers() {
        wrongAt("node 00;", 5);
        wrongAt("node 01;", 5);
        wrongAt("node 4;", 5);
        wrongAt("node 10;", 5);
        wrongAt("node 100;", 5);
        wrongAt("node 3333333333333;", 5);
        wrongAt("node -1;", 5);
        wrongAt("node x;", 5);
        wrongAt("node;", 4);
        wrongAt("node 0 1;", 7);
        wrongAt("node 0node 1;", 6);
        wrongAt("node 0;node 1;link 0 1 05;", 23);
        wrongAt("node 0;node 1;link 0 1 005;", 23);
        load("node 0;node 3;", 2);
    }

    private static void words() {
        wrongAt("nod", 0);
        wrongAt("nodes 0;", 0);
        wrongAt("nodez 0;", 0);
        wrongAt("anode 0;", 0);
        wrongAt("zode 0;", 0);
        wrongAt("nide 0;", 0);
        wrongAt("node 0z", 6);
        wrongAt("  Node 0;", 2);
        wrongAt("nodE 0;", 0);
        wrongAt("; node 0;", 0);
        wrongAt("node 0;;", 7);
        wrongAt("0 node;", 0);
        wrongAt("node 0;area 1;", 7);
        wrongAt("node 0;node 1;links 0 1 5;", 14);
        wrongAt("node 0;node 1;privat 0 1 5;", 14);
        wrongAt("node 0:", 6);
        wrongAt("node 0" + (char) 233 + ";", 6);
        wrongAt((char) 233 + "node 0;", 0);
        wrongAt("{node 0;", 0);
        wrongAt("`node 0;", 0);
        wrongAt("node /;", 5);
        wrongAt("node :;", 5);
    }

    private static void nodes() {
        wrongAt("link 0 1 5;", 5);
        wrongAt("node 0;link 0 1 5;", 14);
        wrongAt("node 0;node 0;link 2 1 5;", 19);
        wrongAt("node 0;node 0;link 0 2 5;", 21);
        wrongAt("node 0;node 0;link 1 1 5;", 21);
        wrongAt("node 0;node 0;private 1 1 5;", 24);
        wrongAt("node 0;node 0;tunnel 1 1 5;", 23);
        wrongAt("node 0;node 0;tunnel 2 1 5;", 21);
        wrongAt("node 0;node 0;tunnel 1 10 5;", 23);
    }

    private static void lines() {
        String two = "node 0;node 0;";
        load(two + "link 0 1 1;link 1 0 20;private 0 1 1;private 0 1 20;", 6);
        load(two + "tunnel 0 1 1;tunnel 1 0 40;", 4);
        wrongAt(two + "link 0 1 0;", 23);
        wrongAt(two + "link 0 1 21;", 23);
        wrongAt(two + "private 0 1 0;", 26);
        wrongAt(two + "private 0 1 21;", 26);
        wrongAt(two + "tunnel 0 1 0;", 25);
        wrongAt(two + "tunnel 0 1 41;", 25);
        wrongAt(two + "link 0 1;", 22);
        wrongAt(two + "link 0 1 5 6;", 25);
    }

    private static void grants() {
        load("grant 0 1;grant 1 0;grant 3 2;", 3);
        wrongAt("grant 4 1;", 6);
        wrongAt("grant 0 4;", 8);
        wrongAt("grant 2 2;", 8);
        wrongAt("grant 0 1;grant 0 1;", 18);
        wrongAt("grant 0;", 7);
        wrongAt("grant 0 1 1;", 10);
        PrivateLinkRouting x = new PrivateLinkRouting();
        x.setGrant(0, 1, 1);
        Check.type(x, "grant 0 1;");
        due("a grant of the network before does not count", x.load(), 1);
        due("its version", x.grant(0, 1, 1), 1);
    }

    private static void room() {
        String ten = "node0;node0;node0;node0;node0;node0;node0;node0;node0;node0;";
        load(ten, 10);
        load(ten + "link 9 0 1;", 11);
        wrongAt(ten + "node0;", 60);
        wrongAt(ten + " node", 61);
        wrongAt(ten + "link 10 0 1;", 65);
        String three = "node0;node0;tunnel0 1 1;tunnel0 1 1;tunnel0 1 1;";
        load(three, 5);
        wrongAt(three + "tunnel0 1 1;", 48);
        wrongAt(three + "tunnel", 48);
    }

    private static void ends() {
        wrongAt("node", 4);
        wrongAt("node  ", 6);
        wrongAt("node 0", 6);
        wrongAt("node 0 ", 7);
        wrongAt("node 0;node 1;link", 18);
        wrongAt("node 0;node 1;link 0", 20);
        wrongAt("node 0;node 1;link 0 1", 22);
        wrongAt("node 0;node 1;link 0 1 5", 24);
        wrongAt("node 0;node 1;link 0 0", 21);
        wrongAt("grant 1", 7);
        String full = "node 0;".repeat(10);
        wrongAt(full + " ".repeat(50 - 7) + "grant 0", 120);
        load(full + " ".repeat(50 - 10) + "grant 0 1;", 11);
    }
}
