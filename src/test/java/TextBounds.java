import java.util.ArrayList;
import java.util.Collections;
import java.util.List;

/** Boundary cases of the text and of how it is read: promises 8 to 10. */
final class TextBounds extends Bounds {
    /** Two nodes, a grant, and then an item of each kind, with all numbers at the ends of their ranges. */
    private static final String[] BEFORE = {"node", "0", ";", "node", "3", ";", "grant", "3", "0", ";"};
    private static final String[][] ITEMS = {
        {"node", "3", ";"}, {"link", "1", "0", "20", ";"}, {"private", "0", "1", "1", ";"}, {"grant", "3", "1", ";"},
        {"tunnel", "1", "0", "40", ";"}
    };
    private static final String[] WORDS = {"node", "link", "private", "grant", "tunnel"};
    private static final String[] NO_WORDS = {"area", "public", "x", "a", "z", "nodenode", "nodelink", "Node", "NODE"};
    private static final String[] NO_TOKENS = {
        "?", ",", ":", "-", "+", "/", "@", "[", "`", "{", "A", "Z", "\t", "\n", "\u0001", "\u007f", "\u00e9", "\u00ff"
    };
    private static final String[] NO_NUMBERS = {
        "00", "01", "09", "000", "001", "010", "100", "110", "999", "0000000001", "4294967297", "4294967296"
    };

    TextBounds(Check check, Sentences sentences) {
        super(check, sentences);
    }

    @Override
    void run() {
        append();
        clearText();
        load();
        loadWhatIsNoNetwork();
        sameAsCalls();
        grammar();
        words();
        numbers();
        spaces();
        everyCharacter();
        leftToRight();
        errorPositions();
        outOfRange();
        rooms();
        ends();
        longestText();
    }

    private void append() {
        says(8, "character: character code, 1 to 255");
        range(Scene.BUSY, 1, 255, PrivateLinkRouting::append);
        range(Scene.NEW, 1, 255, PrivateLinkRouting::append);
        says(8, "Appends a character to the text.");
        PrivateLinkRouting x = Scene.BUSY.make();
        Check.type(x, "node 0;");
        due("items of the text then", x.load(), 4);
        due("the last node's area", x.node(2, 0), 0);
        says(8, "Returns the new length of the text;");
        PrivateLinkRouting y = new PrivateLinkRouting();
        for (int length = 1; length <= 120; length++) {
            due("character " + length, y.append(length % 2 == 0 ? 255 : 1), length);
        }
        due("length", y.count(6), 120);
        says(8, "INVALID_ARGUMENT if character is out of range;");
        refused(Scene.FULL, INVALID, "no character, and no room", z -> z.append(0));
        refused(Scene.FULL, INVALID, "no character, and no room", z -> z.append(256));
        says(8, "CAPACITY_EXCEEDED if the text already has 120 characters.");
        refused(Scene.FULL, NO_ROOM, "character 121", z -> z.append('x'));
        refused(Scene.FULL, NO_ROOM, "character 121", z -> z.append(1));
        refused(Scene.FULL, NO_ROOM, "character 121", z -> z.append(255));
    }

    private void clearText() {
        says(9, "Makes the text empty.");
        PrivateLinkRouting x = Scene.FULL.make();
        x.clearText();
        due("length", x.count(6), 0);
        due("room again", x.append('n'), 1);
        due("the old characters do not count", x.load(), -10);
        PrivateLinkRouting y = Scene.BUSY.make();
        y.clearText();
        dueAll("the way and the history are kept", new int[] {y.way(0), y.count(5)}, 2, 5);
        due("an empty text", y.load(), 0);
        unchanged(Scene.NEW, "clearText", PrivateLinkRouting::clearText);
        says(9, "Returns the previous length of the text.");
        due("none", new PrivateLinkRouting().clearText(), 0);
        due("all", Scene.FULL.make().clearText(), 120);
        PrivateLinkRouting z = Scene.BUSY.make();
        dueAll("once, and twice", new int[] {z.clearText(), z.clearText()}, 24, 0);
    }

    private void load() {
        says(10, "Reads the text as a network, in place of everything;");
        PrivateLinkRouting x = Scene.FULL.make();
        int states = x.count(5);
        due("ten nodes", x.load(), 10);
        int[] counts = {x.count(0), x.count(1), x.count(2), x.count(3)};
        dueAll("nodes, links, tunnels, grants", counts, 10, 0, 0, 0);
        dueAll("version of a grant, facts, behind", new int[] {x.grant(0, 1, 1), x.node(0, 1), x.node(0, 3)}, 0, 0, 0);
        says(10, "the count of messages is 0 then.");
        due("messages before", Scene.FULL.make().count(4) > 0 ? 1 : 0, 1);
        due("messages", x.count(4), 0);
        says(10, "The text becomes empty.");
        due("length", x.count(6), 0);
        due("a load again", x.load(), 0);
        due("no nodes then", x.count(0), 0);
        says(10, "This is an action.");
        due("states", x.count(5), states);
        due("undo", x.undo(), 4);
        due("nodes", x.count(0), 10);
        due("undo", x.undo(), 3);
        dueAll("links and messages are back", new int[] {x.count(1), x.count(4) > 0 ? 1 : 0}, 16, 1);
        says(10, "Returns the number of items;");
        due("none", new PrivateLinkRouting().load(), 0);
        due("three", Scene.BUSY.make().load(), 3);
        due("as many grants as there are", answer("grant0 1;grant0 2;grant0 3;grant1 0;grant1 2;grant1 3;"
            + "grant2 0;grant2 1;grant2 3;grant3 0;grant3 1;grant3 2;"), 12);
    }

    private static int answer(String text) {
        PrivateLinkRouting x = new PrivateLinkRouting();
        Check.type(x, text);
        return x.load();
    }

    private void loadWhatIsNoNetwork() {
        says(10, "-10 minus the error position if the text is not a network (then nothing changes, and the text is");
        String begun = "node 0;node 1;link 0 1 1;tunnel 0 1 1;grant 0 1;node";
        for (String text : new String[] {"?", begun, ";".repeat(120)}) {
            Scene scene = Scene.QUIET.after("the text " + text, x -> withText(x, text));
            int position = text.equals(begun) ? text.length() : 0;
            refused(scene, -10 - position, "load", PrivateLinkRouting::load);
            Scene refused = scene.after("refused", PrivateLinkRouting::load);
            due("wrong once more", refused.make().load(), -10 - position);
            Scene mended = refused.after("mended", x -> withText(x, Scene.BUSY_TEXT).load());
            dueSame("behind it, another text", Looks.atNetwork(mended::make),
                Looks.atNetwork(() -> Check.loaded(Scene.BUSY_TEXT)));
        }
    }

    private static PrivateLinkRouting withText(PrivateLinkRouting x, String text) {
        x.clearText();
        Check.type(x, text);
        return x;
    }

    private void sameAsCalls() {
        says(0, "They have the same effect, in their order, as calls of addNode(), addLink() (public or private),");
        String text = "node 0;grant 0 1;node 0;node 1;private 0 2 1;link 2 1 20;tunnel 2 0 40;grant 1 0;private 2 1 2;";
        List<String> want = Looks.atNetwork(() -> {
            PrivateLinkRouting x = new PrivateLinkRouting();
            x.addNode(0);
            x.setGrant(0, 1, 1);
            x.addNode(0);
            x.addNode(1);
            x.addLink(0, 2, 1, 1);
            x.addLink(2, 1, 20, 0);
            x.addTunnel(2, 0, 40);
            x.setGrant(1, 0, 1);
            x.addLink(2, 1, 2, 1);
            return x;
        });
        dueSame("on a new object", Looks.atNetwork(() -> Check.loaded(text)), want);
        Scene full = Scene.FULL.after("loaded", x -> {
            x.roundsToQuiet();
            withText(x, text).load();
        });
        dueSame("on a full object, beginning with a network as at first", Looks.atNetwork(full::make), want);
    }

    private void loads(String text, int items) {
        due("load of '" + text + "'", answer(text), items);
    }

    private void wrongAt(String text, int position) {
        due("load of '" + text + "'", answer(text), -10 - position);
    }

    private void grammar() {
        says(0, "a sequence of items (possibly none), each of which ends with \";\":");
        loads("", 0);
        loads(" ", 0);
        loads("node 0;", 1);
        wrongAt("node 0", 6);
        wrongAt(";", 0);
        wrongAt("node 0;;", 7);
        wrongAt("node 0,", 6);

        says(0, "\"node\" AREA \"link\" NODE NODE COST \"private\" NODE NODE COST \"grant\" OWNER AREA \"tunnel\"");
        for (String[] item : ITEMS) {
            loads(text(" ", item), 4);
            loads(text("   ", item), 4);
            for (int i = 1; i < item.length; i++) {
                // The item ends before it should, or does not end where it should.
                wrongToken(item, i, i + 1 < item.length ? ";" : "0", true);
            }
        }
    }

    private void words() {
        says(0, "Words are maximal runs of letters a to z, numbers are maximal runs of digits;");
        loads("node0;node3;link0 1 1;", 3);
        wrongAt("nodenode 0;", 0);
        wrongAt("no de 0;", 0);
        for (String word : WORDS) {
            for (int i = 0; i < word.length(); i++) {
                wrongAt("s" + word.substring(0, i) + " 0;", 0);
                wrongAt(word.substring(0, i) + word.substring(i + 1) + " 0;", 0);
                wrongAt(word.substring(0, i) + "z" + word.substring(i + 1) + " 0;", 0);
                wrongAt(word.substring(0, i) + "Z" + word.substring(i + 1) + " 0;", 0);
                wrongAt(word.substring(0, i) + "e" + word.substring(i) + " 0;", 0);
            }
            wrongAt(word + "s 0;", 0);
            wrongAt(word, word.length());
        }
        wrongAt("node 0;node 0;link 01 1;", 19);
        wrongAt("node 0node 0;", 6);
        wrongAt("node 0;node 0;link 0 1 1 0;", 25);
        wrongAt("nOde 0;", 0);
        wrongAt("node`0;", 4);
        wrongAt("node{0;", 4);
        wrongAt("node/0;", 4);
        wrongAt("node:0;", 4);
    }

    private void numbers() {
        says(0, "a number has one or two digits and does not begin with 0 unless it is the single digit 0.");
        String nodes = "node 0;".repeat(10);
        loads(nodes + "link 0 9 9;link 9 0 10;", 12);
        loads(nodes + "tunnel 0 9 40;", 11);
        wrongAt(nodes + "link 00 9 9;", 75);
        wrongAt(nodes + "link 01 9 9;", 75);
        wrongAt(nodes + "link 0 09 9;", 77);
        wrongAt(nodes + "link 0 9 09;", 79);
        wrongAt(nodes + "link 0 9 010;", 79);
        wrongAt(nodes + "link 0 9 100;", 79);
        wrongAt(nodes + "tunnel 0 9 04;", 81);
        wrongAt(nodes + "tunnel 0 9 111;", 81);
    }

    private void spaces() {
        says(0, "Spaces (code 32) may stand before, between and after tokens;");
        loads("  node  0  ;  node  1  ;  link  0  1  5  ;  ", 3);
        loads(" ".repeat(120), 0);
        loads(" ".repeat(113) + "node 0;", 1);
        loads("node 0;" + " ".repeat(113), 1);
        wrongAt("node\t0;", 4);
        wrongAt("node 0;\n", 7);
        wrongAt("node" + (char) 160 + "0;", 4);

        says(0, "they are needed only between two words or two numbers.");
        loads("node0;node1;link0 1 5;private1 0 5;grant0 1;tunnel1 0 5;", 6);
        wrongAt("node0;node1;link01 5;", 16);
        wrongAt("node0;node1;link1 05;", 18);
    }

    /** Each character there is, at the beginning of an item, behind a word, and behind a number. */
    private void everyCharacter() {
        says(0, "because it is another word, another character, a number out of its range or of a node that does not");
        for (int code = 1; code <= 255; code++) {
            char sign = (char) code;
            boolean isDigit = sign >= '0' && sign <= '9';
            boolean isLetter = sign >= 'a' && sign <= 'z';
            loads("node 0;" + sign, sign == ' ' ? 1 : -10 - 7);
            loads("node" + sign + "0;", sign == ' ' ? 1 : -10 - (isLetter ? 0 : 4));
            loads("node 0" + sign + ";", sign == ' ' ? 1 : -10 - (isDigit ? 5 : sign == ';' ? 7 : 6));
        }
    }

    private void leftToRight() {
        says(0, "The text is read from left to right.");
        wrongAt("link 0 1 5;node 0;node 1;", 5);
        wrongAt("node 0;link 0 1 5;node 1;", 14);
        loads("node 0;node 1;link 0 1 5;", 3);
        wrongAt("node 0;node 1;grant 1 1;node 4;", 22);
        wrongAt("node 4;grant 1 1;", 5);
        wrongAt("node 0;node 9;?", 12);
    }

    /** The item with another token at a place; the text goes on behind it, or ends there. */
    private void wrongToken(String[] item, int place, String token, boolean goesOn) {
        List<String> tokens = new ArrayList<>(List.of(item));
        tokens.set(place, token);
        String rest = goesOn ? " " + String.join(" ", tokens.subList(place + 1, tokens.size())) : "";
        for (String gap : new String[] {" ", "   "}) {
            String begin = text(gap, tokens.subList(0, place).toArray(new String[0])) + gap;
            wrongAt(begin + token + rest, begin.length());
        }
    }

    private static String text(String gap, String[] item) {
        List<String> tokens = new ArrayList<>();
        Collections.addAll(tokens, BEFORE);
        Collections.addAll(tokens, item);
        return String.join(gap, tokens);
    }

    private void wrongTokens(String[] item, int place, String... wrong) {
        for (String token : wrong) {
            wrongToken(item, place, token, true);
            wrongToken(item, place, token, false);
        }
    }

    private void errorPositions() {
        says(0, "The error position is the offset (from 0) of the first character of the first token that is not");
        for (String[] item : ITEMS) {
            wrongTokens(item, 0, NO_WORDS);
            wrongTokens(item, 0, NO_TOKENS);
            wrongTokens(item, 0, "0", "1", "20", "100", ";");
            for (int place = 1; place < item.length; place++) {
                wrongTokens(item, place, NO_WORDS);
                wrongTokens(item, place, NO_TOKENS);
                wrongTokens(item, place, NO_NUMBERS);
                wrongTokens(item, place, WORDS);
                wrongTokens(item, place, place + 1 < item.length ? ";" : "1");
            }
        }
    }

    private void outOfRange() {
        says(0, "a number out of its range or of a node that does not exist,");
        wrongTokens(ITEMS[0], 1, "4", "5", "10", "99");
        wrongTokens(ITEMS[3], 1, "4", "5", "10", "99");
        wrongTokens(ITEMS[3], 2, "4", "5", "10", "99");
        for (String[] item : new String[][] {ITEMS[1], ITEMS[2], ITEMS[4]}) {
            wrongTokens(item, 1, "2", "3", "9", "10", "99");
            wrongTokens(item, 2, "2", "3", "9", "10", "99");
        }
        wrongTokens(ITEMS[1], 3, "0", "21", "40", "99");
        wrongTokens(ITEMS[2], 3, "0", "21", "40", "99");
        wrongTokens(ITEMS[4], 3, "0", "41", "99");
        wrongAt("link 0 1 1;", 5);
        wrongAt("node 0;link 0 1 1;", 14);

        says(0, "a second NODE that equals the first one,");
        wrongTokens(ITEMS[1], 2, "1");
        wrongTokens(ITEMS[2], 2, "0");
        wrongTokens(ITEMS[4], 2, "1");

        says(0, "an AREA that equals the OWNER or has this grant already,");
        wrongTokens(ITEMS[3], 2, "3", "0");
        wrongAt("grant 0 0;", 8);
        loads("grant 0 1;grant 1 0;grant 0 2;", 3);
        wrongAt("grant 0 1;grant 1 0;grant 0 1;", 28);
        PrivateLinkRouting x = withText(Scene.FULL.make(), "grant 0 1;");
        due("a grant of the network before this one", x.load(), 1);
    }

    private void rooms() {
        says(0, "or the word of a thing for which there is no room.");
        String ten = "node0;".repeat(10);
        loads(ten, 10);
        loads(ten + "link 9 0 1;grant 0 1;tunnel 0 9 1;", 13);
        wrongAt(ten + "node0;", 60);
        wrongAt(ten + "  node", 62);
        wrongAt(ten + " node 9;", 61);
        wrongAt(ten + "link 0 10 1;", 67);
        String three = "node0;node0;tunnel0 1 1;tunnel0 1 1;tunnel0 1 1;";
        loads(three, 5);
        loads(three + "link 0 1 1;node 3;grant 3 1;", 8);
        wrongAt(three + "tunnel0 1 1;", 48);
        wrongAt(three + " tunnel 0 0 0;", 49);
        // Sixteen links are more than 120 characters can tell; ten are the most.
        loads("node0;node0;" + "link0 1 1;".repeat(10), 12);
        due("no room of the network before this one", withText(Scene.FULL.make(), "node 0;").load(), 1);
    }

    private void ends() {
        says(0, "If the text ends inside of an item, the error position is its length.");
        for (String[] item : ITEMS) {
            for (int tokens = 1; tokens < item.length; tokens++) {
                String[] begun = List.of(item).subList(0, tokens).toArray(new String[0]);
                wrongAt(text(" ", begun), text(" ", begun).length());
                wrongAt(text(" ", begun) + "  ", text(" ", begun).length() + 2);
            }
        }
        wrongAt("node 0;nod", 7);
        wrongAt("node 0;node 4", 12);
    }

    private void longestText() {
        says(0, "A network can be read from a text of at most 120 characters,");
        String nodes = "node 0;".repeat(10);
        loads(nodes + " ".repeat(50 - 10) + "grant 0 1;", 11);
        wrongAt(nodes + " ".repeat(50 - 9) + "grant 0 1", 120);
        wrongAt(nodes + " ".repeat(50 - 10) + "grant 0 1?", 119);
        wrongAt(nodes + " ".repeat(49) + "?", 119);
        loads(nodes + " ".repeat(50), 10);
        PrivateLinkRouting x = new PrivateLinkRouting();
        Check.type(x, nodes + " ".repeat(50 - 9) + "grant 0 1");
        dueAll("the semicolon is too much", new int[] {x.append(';'), x.load()}, NO_ROOM, -10 - 120);
    }
}
