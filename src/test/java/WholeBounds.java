import java.util.Random;
import java.util.function.ToIntFunction;

/** The document's first part, with its 512 calls, and its last one. */
final class WholeBounds extends Bounds {
    private static final int LIFE = 512;
    private static final int CALLS_AFTER_LIFE = 4000;
    private static final int[] NUMBERS = {
        Integer.MIN_VALUE, -3, -1, 0, 0, 0, 1, 1, 1, 2, 2, 3, 4, 5, 9, 10, 16, 20, 32, 40, 59, 255, Integer.MAX_VALUE
    };

    /** What a call answers, and how many calls came before it on the same object. */
    private interface Life {
        int call(PrivateLinkRouting x, int before);
    }

    WholeBounds(Check check, Sentences sentences) {
        super(check, sentences);
    }

    @Override
    void run() {
        flooding();
        disclosing();
        forwarding();
        livesOfSetting();
        livesOfText();
        livesOfRounds();
        livesOfHistory();
        livesOfLooking();
        afterItsLife();
        noMoreThanThat();
    }

    private void flooding() {
        says(0, "A simulator of link-state routing with private links: nodes in areas flood what they know about");
        PrivateLinkRouting x = Check.loaded("node 0;node 1;node 2;link 0 1 4;link 1 2 5;tunnel 0 2 6;grant 0 3;");
        dueAll("at first", new int[] {x.known(2, 16, 0), x.known(2, 32, 0), x.known(2, 3, 0)}, 0, 0, 0);
        due("rounds", x.settle(), 3);
        dueAll("link, tunnel, grant", new int[] {x.known(2, 16, 2), x.known(2, 32, 2), x.known(2, 3, 1)}, 4, 6, 1);
    }

    private void disclosing() {
        says(0, "private links of an area are disclosed to other areas by grants and forgotten again when these are");
        PrivateLinkRouting x = Check.settled("node 0;node 0;node 1;private 0 1 2;link 1 2 1;");
        due("private", x.known(2, 16, 0), 0);
        x.setGrant(0, 1, 1);
        x.settle();
        due("disclosed", x.known(2, 16, 0), 1);
        x.setGrant(0, 1, 0);
        x.settle();
        due("forgotten", x.known(2, 16, 0), 0);
    }

    private void forwarding() {
        says(0, "each node finds shortest paths in its own view, packets are forwarded hop by hop where views may");
        PrivateLinkRouting x = Check.settled("node 0;node 0;node 1;private 0 1 2;link 0 2 3;link 1 2 20;grant 0 1;");
        dueAll("views agree", new int[] {x.distance(2, 1, 1), x.distance(0, 1, 1)}, 5, 2);
        dueAll("a packet", new int[] {x.send(2, 1), x.way(-2)}, 0, 5);
        x.setGrant(0, 1, 0);
        dueAll("they do not", new int[] {x.distance(2, 1, 1), x.distance(0, 1, 1)}, 5, 23);
        dueAll("a packet then", new int[] {x.send(2, 1), x.way(-1)}, 4, 20);
        x.addTunnel(0, 1, 1);
        x.settle();
        dueAll("a tunnel hides the link", new int[] {x.known(2, 16, 0), x.send(2, 1), x.way(-2)}, 0, 0, 5);
    }

    /** An object's last calls are calls like all others: the answer to number 512 is as due. */
    private void dueLast(String what, int want, Life life) {
        PrivateLinkRouting x = new PrivateLinkRouting();
        int answer = 0;
        for (int before = 0; before < LIFE; before++) {
            answer = life.call(x, before);
        }
        due("call 512 of " + what, answer, want);
    }

    /** The text and load() come first, then the calls that are told. */
    private void dueLast(String what, int want, String text, Life life) {
        dueLast(what, want, (x, before) -> {
            if (before < text.length()) {
                return x.append(text.charAt(before));
            }
            return before == text.length() ? x.load() : life.call(x, before);
        });
    }

    private void livesOfSetting() {
        says(0, "An object is used for at most 512 calls after it has been made;");
        String text = "node0;node1;link0 1 1;tunnel0 1 1;";
        int sets = LIFE - text.length() - 1;
        dueLast("setGrant", 512, (x, before) -> x.setGrant(2, 3, 1 - before % 2));
        dueLast("setLink, costs", 1 + sets, text, (x, before) -> x.setLink(0, 1, 2 + before % 2));
        dueLast("setLink, up and down", 1 + sets, text, (x, before) -> x.setLink(0, 1 - before % 2, 1));
        dueLast("setTunnel", 1 + sets, text, (x, before) -> x.setTunnel(0, before % 2, 40));
        dueLast("addNode", NO_ROOM, (x, before) -> x.addNode(before % 4));
        dueLast("addLink", NO_ROOM, text, (x, before) -> x.addLink(before % 2, 1 - before % 2, 20, before % 2));
        dueLast("addTunnel", NO_ROOM, text, (x, before) -> x.addTunnel(before % 2, 1 - before % 2, 40));
        dueLast("known, of a grant", 510, (x, before) ->
            before == 0 ? x.addNode(2) : before < 511 ? x.setGrant(2, 3, before % 2) : x.known(0, 11, 0));
    }

    private void livesOfText() {
        says(0, "An object is used for at most 512 calls after it has been made;");
        dueLast("append", NO_ROOM, (x, before) -> x.append(255));
        dueLast("clearText", 1, (x, before) -> before % 2 == 0 ? x.append('x') : x.clearText());
        dueLast("clearText, once", 120, (x, before) -> before < 511 ? x.append(1) : x.clearText());
        dueLast("load", 1, (x, before) -> before % 8 < 7 ? x.append("node 3;".charAt(before % 8)) : x.load());
        dueLast("load of no network", -10 - 120, (x, before) ->
            before < 4 ? x.append("node".charAt(before)) : before < 511 ? x.append(' ') : x.load());
        dueLast("load of nothing", 0, (x, before) -> x.load());
    }

    private void livesOfRounds() {
        says(0, "An object is used for at most 512 calls after it has been made;");
        String text = "node0;node1;link0 1 1;";
        // Each set is news at both ends, and so two messages.
        dueLast("step", 2, text + " ", (x, before) -> before % 2 == 0 ? setCost(x, before) : x.step(1));
        dueLast("settle", 1, text + " ", (x, before) -> before % 2 == 0 ? setCost(x, before) : x.settle());
        int rounds = (LIFE - text.length() - 2) / 2;
        dueLast("count of messages", 2 * rounds, text, (x, before) -> before == 511 ? x.count(4)
            : before % 2 == 1 ? setCost(x, before) : x.step(40));
        dueLast("roundsToQuiet", 1, text, (x, before) -> x.roundsToQuiet());
        dueLast("step of a quiet network", ILLEGAL, text, (x, before) -> x.step(40));
    }

    /** Another cost than two calls before. */
    private static int setCost(PrivateLinkRouting x, int before) {
        return x.setLink(0, 1, 2 + before / 2 % 2);
    }

    private void livesOfHistory() {
        says(0, "An object is used for at most 512 calls after it has been made;");
        dueLast("undo", 0, (x, before) -> before % 2 == 0 ? x.addNode(before % 4) : x.undo());
        dueLast("undo of a grant", 4, (x, before) -> before < 511 ? x.setGrant(1, 0, 1 - before % 2) : x.undo());
        dueLast("states", 5, (x, before) -> before < 511 ? x.setGrant(1, 0, 1 - before % 2) : x.count(5));
        dueLast("the version after five undos", 501, (x, before) ->
            before < 506 ? x.setGrant(1, 0, 1 - before % 2) : before < 511 ? x.undo() : x.grant(1, 0, 1));
    }

    private void livesOfLooking() {
        says(0, "An object is used for at most 512 calls after it has been made;");
        String text = "node0;node1;node0;link0 1 2;private1 2 3;tunnel2 0 9;grant1 0;";
        dueLast("distance", 2, text, (x, before) -> x.distance(0, 1, before % 4));
        dueLast("next", 16, text, (x, before) -> x.next(1, 0, before % 4, 1));
        dueLast("send", 1, text, (x, before) -> x.send(0, 2));
        dueLast("way", 2, text, (x, before) -> before % 2 == 0 ? x.send(0, 1) : x.way(-2));
        dueLast("outcomes", 3, text, (x, before) -> x.outcomes(0));
        dueLast("ideal", 5, text, (x, before) -> x.ideal(2, 0));
        dueLast("worth", 200 - 5 + 200 - 3 + 200 - 5, text, (x, before) -> x.worth(1, 0));
        dueLast("node", 3, text, (x, before) -> x.node(1, 1));
        dueLast("link", 3, text, (x, before) -> x.link(1, 2));
        dueLast("tunnel", 9, text, (x, before) -> x.tunnel(0, 2));
        dueLast("grant", 1, text, (x, before) -> x.grant(1, 0, 0));
        dueLast("known", 1, text, (x, before) -> x.known(1, 4, 1));
    }

    /** The answers are free; but LANGUAGE.md wants no call ever to throw. */
    private void afterItsLife() {
        says(0, "what later calls answer is free.");
        says(0, "Nothing is promised beyond the answers and state changes described above, and nothing about an");
        for (int seed = 0; seed < 20; seed++) {
            PrivateLinkRouting x = seed % 2 == 0 ? new PrivateLinkRouting() : Scene.FULL.make();
            Random random = new Random(seed);
            int thrown = 0;
            for (int i = 0; i < LIFE + CALLS_AFTER_LIFE && thrown == 0; i++) {
                thrown += throwsAnything(x, random) ? 1 : 0;
            }
            due("calls that throw, seed " + seed, thrown, 0);
        }
        PrivateLinkRouting old = Scene.FULL.make();
        for (int i = 0; i < 10 * LIFE; i++) {
            old.setLink(i % 16, i / 16 % 2, 20);
            old.setTunnel(i % 3, i / 3 % 2, 40);
            old.step(1);
        }
        due("far beyond, no packet is lost sight of",
            old.outcomes(0) + old.outcomes(1) + old.outcomes(2) + old.outcomes(3) + old.outcomes(4), 90);
    }

    private static boolean throwsAnything(PrivateLinkRouting x, Random random) {
        int[] n = new int[4];
        for (int i = 0; i < n.length; i++) {
            n[i] = random.nextInt(40) == 0 ? random.nextInt() : NUMBERS[random.nextInt(NUMBERS.length)];
        }
        try {
            callAny(x, random.nextInt(26), n);
            return false;
        } catch (RuntimeException thrown) {
            thrown.printStackTrace(System.out);
            return true;
        }
    }

    private static int callAny(PrivateLinkRouting x, int which, int[] n) {
        return switch (which) {
            case 0 -> x.addNode(n[0]);
            case 1 -> x.addLink(n[0], n[1], n[2], n[3]);
            case 2 -> x.setLink(n[0], n[1], n[2]);
            case 3 -> x.setGrant(n[0], n[1], n[2]);
            case 4 -> x.addTunnel(n[0], n[1], n[2]);
            case 5 -> x.setTunnel(n[0], n[1], n[2]);
            case 6 -> x.append(n[0]);
            case 7 -> x.clearText();
            // A load of no text would leave nothing for the other calls: mostly the text is wrong.
            case 8 -> x.append('?') > 0 ? x.load() : x.clearText();
            case 9 -> x.step(n[0]);
            case 10 -> x.settle();
            case 11 -> x.roundsToQuiet();
            case 12 -> x.undo();
            case 13 -> x.count(n[0]);
            case 14 -> x.node(n[0], n[1]);
            case 15 -> x.link(n[0], n[1]);
            case 16 -> x.tunnel(n[0], n[1]);
            case 17 -> x.grant(n[0], n[1], n[2]);
            case 18 -> x.known(n[0], n[1], n[2]);
            case 19 -> x.distance(n[0], n[1], n[2]);
            case 20 -> x.next(n[0], n[1], n[2], n[3]);
            case 21 -> x.send(n[0], n[1]);
            case 22 -> x.way(n[0]);
            case 23 -> x.outcomes(n[0]);
            case 24 -> x.ideal(n[0], n[1]);
            default -> x.worth(n[0], n[1]);
        };
    }

    /** A look at the object changes nothing, however often; and another object's calls do not, either. */
    private void noMoreThanThat() {
        says(0, "Nothing is promised beyond the answers and state changes described above, and nothing about an");
        ToIntFunction<PrivateLinkRouting> looks = x -> {
            int sum = 0;
            for (int which : new int[] {11, 13, 14, 15, 16, 17, 18, 19, 20, 22, 23, 24, 25}) {
                sum += callAny(x, which, new int[] {0, 1, 1, 1});
                sum += callAny(x, which, new int[] {1, 0, 1, 0});
            }
            return sum;
        };
        unchanged(Scene.BUSY, "looks", looks);
        unchanged(Scene.QUIET, "looks", looks);
        unchanged(Scene.BUSY, "another object's calls", x -> Scene.FULL.make().load());
    }
}
