import java.lang.reflect.Method;
import java.util.ArrayList;
import java.util.Arrays;
import java.util.List;
import java.util.Random;

/** Long runs of calls, the same ones each time, on the class and on the slow model of the document. */
public final class ModelTest {
    private static final int RUNS = 400;
    private static final int CALLS = 512;

    private final Check check = new Check("ModelTest");
    private final int[] results = new int[5];
    private Random random;
    private PrivateLinkRouting x;
    private Model model;
    private int calls;
    private List<String> log;

    public static void main(String[] args) throws ReflectiveOperationException {
        ModelTest test = new ModelTest();
        for (int run = 0; run < RUNS && test.check.wrongs() == 0; run++) {
            test.run(run);
        }
        for (int result : new int[] {0, 1, 3, 4}) {
            test.check.due("some packet had the result " + result, test.results[result] > 0 ? 1 : 0, 1);
        }
        System.out.println("results of packets: " + Arrays.toString(test.results));
        test.check.end();
    }

    private void run(int seed) throws ReflectiveOperationException {
        random = new Random(seed);
        x = new PrivateLinkRouting();
        model = new Model();
        calls = 0;
        log = new ArrayList<>();
        if (random.nextInt(3) > 0) {
            build();
        }
        while (calls < CALLS && check.wrongs() == 0) {
            switch (random.nextInt(8)) {
                case 7 -> disagree();
                case 6 -> revoke();
                case 0 -> change();
                case 1 -> flow();
                case 2, 3 -> look();
                case 4 -> ship();
                default -> any();
            }
        }
        if (check.wrongs() > 0) {
            System.out.println("run " + seed + ": " + log);
        }
    }

    private int call(String name, int... arguments) throws ReflectiveOperationException {
        Class<?>[] types = new Class<?>[arguments.length];
        Object[] values = new Object[arguments.length];
        for (int i = 0; i < arguments.length; i++) {
            types[i] = int.class;
            values[i] = arguments[i];
        }
        Method mine = PrivateLinkRouting.class.getMethod(name, types);
        Method due = Model.class.getDeclaredMethod(name, types);
        int got = (Integer) mine.invoke(x, values);
        int want = (Integer) due.invoke(model, values);
        calls++;
        log.add(name + Arrays.toString(arguments) + "=" + got);
        check.due(name + Arrays.toString(arguments), got, want);
        return got;
    }

    private int below(int bound) {
        return random.nextInt(Math.max(1, bound));
    }

    private int node() {
        return below(model.count(0));
    }

    private void build() throws ReflectiveOperationException {
        int nodes = 2 + below(9);
        int areas = 1 + below(4);
        for (int i = 0; i < nodes; i++) {
            call("addNode", below(areas));
        }
        int highest = 1 + below(5);
        for (int i = 0; i < nodes + below(6); i++) {
            call("addLink", node(), node(), 1 + below(highest), below(2));
        }
        for (int i = 0; i < below(4); i++) {
            call("addTunnel", node(), node(), 1 + below(4));
        }
        for (int i = 0; i < below(6); i++) {
            call("setGrant", below(areas), below(areas), 1);
        }
        if (random.nextBoolean()) {
            call("settle");
        }
    }

    private void change() throws ReflectiveOperationException {
        switch (below(9)) {
            case 0 -> call("addNode", below(4));
            case 1 -> call("addLink", node(), node(), 1 + below(6), below(2));
            case 2, 3 -> call("setLink", below(model.count(1)), below(2), 1 + below(6));
            case 4, 5, 6 -> call("setGrant", below(4), below(4), below(2));
            case 7 -> call("addTunnel", node(), node(), 1 + below(6));
            default -> call("setTunnel", below(model.count(2)), below(2), 1 + below(6));
        }
    }

    /** A grant that all know goes off; until this is known too, packets are denied. */
    private void revoke() throws ReflectiveOperationException {
        int owner = below(4);
        int area = below(4);
        call("setGrant", owner, area, 1);
        call("settle");
        call("outcomes", 0);
        call("setGrant", owner, area, 0);
        for (int result = 0; result < 5; result++) {
            call("outcomes", result);
        }
        for (int i = 0; i < 5; i++) {
            ship();
        }
        call("step", 1);
        for (int node = 0; node < model.count(0); node++) {
            call("node", node, 1 + below(4));
        }
    }

    /** Costs that all know change much, and only the links' ends know: packets go forth and back. */
    private void disagree() throws ReflectiveOperationException {
        call("settle");
        for (int i = 0; i < 3; i++) {
            call("setLink", below(model.count(1)), 1, below(2) == 0 ? 1 + below(2) : 19 + below(2));
        }
        if (below(3) == 0) {
            call("setTunnel", below(model.count(2)), 1, 1 + below(2));
        }
        for (int result = 0; result < 5; result++) {
            call("outcomes", result);
        }
        for (int i = 0; i < 4; i++) {
            ship();
        }
    }

    private void flow() throws ReflectiveOperationException {
        switch (below(8)) {
            case 0, 1, 2 -> call("step", 1 + below(2));
            case 3 -> call("step", 1 + below(40));
            case 4 -> call("settle");
            case 5 -> call("roundsToQuiet");
            case 6 -> call("undo");
            default -> read();
        }
    }

    private static final String[] PIECES = {
        "node", "link", "private", "grant", "tunnel", ";", " ", "0", "1", "2", "3", "4", "9", "10", "20", "21", "40",
        "41", "00", "05", "100", "nodes", "x", "A", "\t", ",", "\u00e4", "node 0;", "node 1;", "node2 ;", "link 0 1 5;",
        "private 1 0 3;", "grant 0 1;", "grant 2 3;", "tunnel 0 1 9;", "link0 1 1;", "node0;node1;node0;"
    };

    private void read() throws ReflectiveOperationException {
        if (calls > CALLS - 150) {
            return;
        }
        StringBuilder text = new StringBuilder();
        int pieces = below(12);
        for (int i = 0; i < pieces; i++) {
            text.append(PIECES[below(3) == 0 ? below(PIECES.length) : PIECES.length - 1 - below(10)]);
        }
        for (int i = 0; i < text.length(); i++) {
            call("append", text.charAt(i));
        }
        call("load");
        if (random.nextBoolean()) {
            call("clearText");
        }
    }

    private void look() throws ReflectiveOperationException {
        switch (below(6)) {
            case 0 -> call("count", below(7));
            case 1 -> call("node", node(), below(5));
            case 2 -> call("link", below(model.count(1)), below(6));
            case 3 -> call("tunnel", below(model.count(2)), below(5));
            case 4 -> call("grant", below(4), below(4), below(2));
            default -> call("known", node(), below(35), below(4));
        }
    }

    private void ship() throws ReflectiveOperationException {
        switch (below(9)) {
            case 0 -> call("distance", node(), node(), below(4));
            case 1 -> call("next", node(), node(), below(4), below(2));
            case 2, 3 -> {
                int result = call("send", node(), node());
                if (result >= 0) {
                    results[result]++;
                }
                for (int index = -2; index < 4; index++) {
                    call("way", index);
                }
            }
            case 4, 5 -> call("way", below(8) - 2);
            case 6 -> call("outcomes", below(5));
            case 7 -> call("ideal", node(), node());
            default -> call("worth", below(4), below(4));
        }
    }

    private static final String[] ALL = {
        "addNode1", "addLink4", "setLink3", "setGrant3", "addTunnel3", "setTunnel3", "append1", "clearText0", "load0",
        "step1", "settle0", "roundsToQuiet0", "undo0", "count1", "node2", "link2", "tunnel2", "grant3", "known3",
        "distance3", "next4", "send2", "way1", "outcomes1", "ideal2", "worth2"
    };
    private static final int[] EDGES = {
        Integer.MIN_VALUE, -3, -2, -1, 0, 0, 1, 1, 2, 3, 4, 5, 6, 7, 9, 10, 15, 16, 17, 20, 21, 31, 32, 34, 35, 40, 41,
        255, 256, Integer.MAX_VALUE
    };

    /** Any call with arguments at the edges: most answers are errors, which must change nothing. */
    private void any() throws ReflectiveOperationException {
        String which = ALL[below(ALL.length)];
        int[] arguments = new int[which.charAt(which.length() - 1) - '0'];
        for (int i = 0; i < arguments.length; i++) {
            arguments[i] = random.nextBoolean() ? below(3) : EDGES[below(EDGES.length)];
        }
        call(which.substring(0, which.length() - 1), arguments);
    }
}
