import java.util.Arrays;

/**
 * A simulator of link-state routing with private links. The document DOC.md says what each method
 * does; README.md tells how this file is laid out.
 */
public final class PrivateLinkRouting {
    public static final int INVALID_ARGUMENT = -1;
    public static final int ILLEGAL_STATE = -2;
    public static final int CAPACITY_EXCEEDED = -3;
    public static final int NONE = -9;

    private static final int AREAS = 4;
    private static final int MAX_NODES = 10;
    private static final int MAX_LINKS = 16;
    private static final int MAX_TUNNELS = 3;
    private static final int MAX_LINK_COST = 20;
    private static final int MAX_TUNNEL_COST = 40;
    private static final int MAX_TEXT = 120;
    private static final int MAX_CHARACTER = 255;
    private static final int MAX_HISTORY = 5;
    private static final int MAX_STEP = 40;
    private static final int MAX_CROSSED = 20;

    private static final int FIRST_LINK = AREAS * AREAS;
    private static final int FIRST_TUNNEL = FIRST_LINK + MAX_LINKS;
    private static final int ITEMS = FIRST_TUNNEL + MAX_TUNNELS;

    private static final int DELIVERED = 0;
    private static final int NO_ROUTE = 1;
    private static final int DOWN = 2;
    private static final int DENIED = 3;
    private static final int LOOP = 4;

    /** Stands in worth() for a way that does not exist. */
    private static final int NO_WAY_COST = 200;
    /** Flooding ends by itself, since versions only grow; this is far above any run's need. */
    private static final int MAX_ROUNDS = 1000000;

    private final Network network = new Network();
    private final Network scratch = new Network();
    private final Network[] history = new Network[MAX_HISTORY];
    private int historySize = 0;
    private final Reader reader = new Reader();
    private final Flood flood = new Flood();
    private final Graph graph = new Graph();
    private final Packet latest = new Packet();
    private final Packet trial = new Packet();
    private boolean wayIsKept = false;

    public PrivateLinkRouting() {
        for (int i = 0; i < MAX_HISTORY; i++) {
            history[i] = new Network();
        }
    }

    // ---- network

    public int addNode(int area) {
        if (!isArea(area)) {
            return INVALID_ARGUMENT;
        }
        if (network.nodes >= MAX_NODES) {
            return CAPACITY_EXCEEDED;
        }
        beginAction();
        return network.createNode(area);
    }

    public int addLink(int first, int second, int cost, int isPrivate) {
        if (!isPair(first, second) || !isCost(cost, MAX_LINK_COST) || !isFlag(isPrivate)) {
            return INVALID_ARGUMENT;
        }
        if (network.links >= MAX_LINKS) {
            return CAPACITY_EXCEEDED;
        }
        beginAction();
        return network.createLink(first, second, cost, isPrivate);
    }

    public int setLink(int link, int up, int cost) {
        if (!isLink(link) || !isFlag(up) || !isCost(cost, MAX_LINK_COST)) {
            return INVALID_ARGUMENT;
        }
        int fact = network.truth[FIRST_LINK + link];
        if (Fact.state(fact) == up && Fact.price(fact) == cost) {
            return ILLEGAL_STATE;
        }
        beginAction();
        return network.changeLink(link, up, cost);
    }

    public int setGrant(int owner, int area, int on) {
        if (!areTwoAreas(owner, area) || !isFlag(on)) {
            return INVALID_ARGUMENT;
        }
        if (Fact.state(network.truth[grantItem(owner, area)]) == on) {
            return ILLEGAL_STATE;
        }
        beginAction();
        return network.changeGrant(owner, area, on);
    }

    public int addTunnel(int entry, int exit, int cost) {
        if (!isPair(entry, exit) || !isCost(cost, MAX_TUNNEL_COST)) {
            return INVALID_ARGUMENT;
        }
        if (network.tunnels >= MAX_TUNNELS) {
            return CAPACITY_EXCEEDED;
        }
        beginAction();
        return network.createTunnel(entry, exit, cost);
    }

    public int setTunnel(int tunnel, int up, int cost) {
        if (!isTunnel(tunnel) || !isFlag(up) || !isCost(cost, MAX_TUNNEL_COST)) {
            return INVALID_ARGUMENT;
        }
        int fact = network.truth[FIRST_TUNNEL + tunnel];
        if (Fact.state(fact) == up && Fact.price(fact) == cost) {
            return ILLEGAL_STATE;
        }
        beginAction();
        return network.changeTunnel(tunnel, up, cost);
    }

    public int append(int character) {
        if (character < 1 || character > MAX_CHARACTER) {
            return INVALID_ARGUMENT;
        }
        if (reader.length >= MAX_TEXT) {
            return CAPACITY_EXCEEDED;
        }
        reader.text[reader.length] = (char) character;
        reader.length++;
        return reader.length;
    }

    public int clearText() {
        int previous = reader.length;
        reader.length = 0;
        return previous;
    }

    public int load() {
        int answer = reader.readNetwork(scratch);
        if (answer < 0) {
            return answer;
        }
        beginAction();
        network.copyFrom(scratch);
        reader.length = 0;
        return answer;
    }

    // ---- rounds

    public int step(int rounds) {
        if (rounds < 1 || rounds > MAX_STEP) {
            return INVALID_ARGUMENT;
        }
        if (network.isQuiet()) {
            return ILLEGAL_STATE;
        }
        beginAction();
        int before = network.messages;
        flood.passRounds(network, rounds);
        return network.messages - before;
    }

    public int settle() {
        if (network.isQuiet()) {
            return ILLEGAL_STATE;
        }
        beginAction();
        return flood.passRounds(network, MAX_ROUNDS);
    }

    public int roundsToQuiet() {
        scratch.copyFrom(network);
        return flood.passRounds(scratch, MAX_ROUNDS);
    }

    public int undo() {
        if (historySize == 0) {
            return ILLEGAL_STATE;
        }
        historySize--;
        network.copyFrom(history[historySize]);
        wayIsKept = false;
        return historySize;
    }

    // ---- looking

    public int count(int what) {
        switch (what) {
            case 0: return network.nodes;
            case 1: return network.links;
            case 2: return network.tunnels;
            case 3: return network.countGrants();
            case 4: return network.messages;
            case 5: return historySize;
            case 6: return reader.length;
            default: return INVALID_ARGUMENT;
        }
    }

    public int node(int node, int what) {
        if (!isNode(node)) {
            return INVALID_ARGUMENT;
        }
        switch (what) {
            case 0: return network.areas[node];
            case 1: return network.countFacts(node);
            case 2: return Long.bitCount(network.news[node]);
            case 3: return network.countBehind(node);
            case 4: return network.countSecrets(node);
            default: return INVALID_ARGUMENT;
        }
    }

    public int link(int link, int what) {
        if (!isLink(link)) {
            return INVALID_ARGUMENT;
        }
        int fact = network.truth[FIRST_LINK + link];
        switch (what) {
            case 0: return network.firsts[link];
            case 1: return network.seconds[link];
            case 2: return Fact.price(fact);
            case 3: return Fact.state(fact);
            case 4: return network.privates[link];
            case 5: return Fact.version(fact);
            default: return INVALID_ARGUMENT;
        }
    }

    public int tunnel(int tunnel, int what) {
        if (!isTunnel(tunnel)) {
            return INVALID_ARGUMENT;
        }
        int fact = network.truth[FIRST_TUNNEL + tunnel];
        switch (what) {
            case 0: return network.entries[tunnel];
            case 1: return network.exits[tunnel];
            case 2: return Fact.price(fact);
            case 3: return Fact.state(fact);
            case 4: return Fact.version(fact);
            default: return INVALID_ARGUMENT;
        }
    }

    public int grant(int owner, int area, int what) {
        if (!areTwoAreas(owner, area)) {
            return INVALID_ARGUMENT;
        }
        int fact = network.truth[grantItem(owner, area)];
        switch (what) {
            case 0: return Fact.state(fact);
            case 1: return Fact.version(fact);
            default: return INVALID_ARGUMENT;
        }
    }

    public int known(int node, int item, int what) {
        if (!isNode(node) || !isItem(item)) {
            return INVALID_ARGUMENT;
        }
        int fact = network.facts[place(node, item)];
        switch (what) {
            case 0: return Fact.version(fact);
            case 1: return fact == Fact.UNKNOWN ? NONE : Fact.state(fact);
            case 2: return fact == Fact.UNKNOWN ? NONE : Fact.price(fact);
            case 3: return network.isNews(node, item) ? 1 : 0;
            default: return INVALID_ARGUMENT;
        }
    }

    // ---- paths and packets

    public int distance(int node, int to, int area) {
        if (!isNode(node) || !isNode(to) || !isArea(area)) {
            return INVALID_ARGUMENT;
        }
        graph.takeView(network, node, area, true);
        graph.measureTo(to);
        return graph.costFrom(node);
    }

    public int next(int node, int to, int area, int part) {
        if (!isPair(node, to) || !isArea(area) || !isFlag(part)) {
            return INVALID_ARGUMENT;
        }
        graph.takeView(network, node, area, true);
        graph.measureTo(to);
        int edge = graph.firstEdge(node);
        if (edge < 0) {
            return NONE;
        }
        return part == 0 ? graph.ends[edge] : graph.items[edge];
    }

    public int send(int from, int to) {
        if (!isPair(from, to)) {
            return INVALID_ARGUMENT;
        }
        wayIsKept = true;
        return latest.travel(network, graph, from, to);
    }

    public int way(int index) {
        if (index < -2) {
            return INVALID_ARGUMENT;
        }
        if (!wayIsKept) {
            return ILLEGAL_STATE;
        }
        if (index == -2) {
            return latest.cost;
        }
        if (index == -1) {
            return latest.crossed;
        }
        return index <= latest.crossed ? latest.stops[index] : NONE;
    }

    public int outcomes(int result) {
        if (result < DELIVERED || result > LOOP) {
            return INVALID_ARGUMENT;
        }
        int pairs = 0;
        for (int from = 0; from < network.nodes; from++) {
            for (int to = 0; to < network.nodes; to++) {
                if (from != to && trial.travel(network, graph, from, to) == result) {
                    pairs++;
                }
            }
        }
        return pairs;
    }

    public int ideal(int from, int to) {
        if (!isNode(from) || !isNode(to)) {
            return INVALID_ARGUMENT;
        }
        graph.takeTrueLinks(network, network.entitlements(network.areas[from]));
        graph.measureTo(to);
        return graph.costFrom(from);
    }

    public int worth(int owner, int area) {
        if (!areTwoAreas(owner, area)) {
            return INVALID_ARGUMENT;
        }
        int entitlements = network.entitlements(area);
        int without = sumOfIdeals(area, entitlements & ~(1 << owner));
        int with = sumOfIdeals(area, entitlements | (1 << owner));
        return without - with;
    }

    /** The sum of all ideal costs from an area's nodes, if it was entitled to what these owners have. */
    private int sumOfIdeals(int area, int owners) {
        graph.takeTrueLinks(network, owners);
        int sum = 0;
        for (int to = 0; to < network.nodes; to++) {
            graph.measureTo(to);
            for (int from = 0; from < network.nodes; from++) {
                if (network.areas[from] == area) {
                    int cost = graph.costFrom(from);
                    sum += cost == NONE ? NO_WAY_COST : cost;
                }
            }
        }
        return sum;
    }

    /** To be called by an action that is sure to succeed, before it changes anything. */
    private void beginAction() {
        if (historySize == MAX_HISTORY) {
            dropOldest();
        }
        history[historySize].copyFrom(network);
        historySize++;
        wayIsKept = false;
    }

    /** The row of the state that is dropped goes to the end, to be used again. */
    private void dropOldest() {
        Network oldest = history[0];
        for (int i = 1; i < MAX_HISTORY; i++) {
            history[i - 1] = history[i];
        }
        history[MAX_HISTORY - 1] = oldest;
        historySize--;
    }

    private boolean isNode(int node) {
        return node >= 0 && node < network.nodes;
    }

    private boolean isPair(int node, int other) {
        return isNode(node) && isNode(other) && node != other;
    }

    private boolean isLink(int link) {
        return link >= 0 && link < network.links;
    }

    private boolean isTunnel(int tunnel) {
        return tunnel >= 0 && tunnel < network.tunnels;
    }

    private boolean isItem(int item) {
        if (item < 0) {
            return false;
        }
        if (item < FIRST_LINK) {
            return grantOwner(item) != grantArea(item);
        }
        return item < FIRST_TUNNEL ? isLink(item - FIRST_LINK) : isTunnel(item - FIRST_TUNNEL);
    }

    private static boolean isArea(int area) {
        return area >= 0 && area < AREAS;
    }

    private static boolean areTwoAreas(int owner, int area) {
        return isArea(owner) && isArea(area) && owner != area;
    }

    private static boolean isCost(int cost, int highest) {
        return cost >= 1 && cost <= highest;
    }

    private static boolean isFlag(int flag) {
        return flag == 0 || flag == 1;
    }

    private static int grantItem(int owner, int area) {
        return AREAS * owner + area;
    }

    private static int grantOwner(int item) {
        return item / AREAS;
    }

    private static int grantArea(int item) {
        return item % AREAS;
    }

    /** Where the fact of a node about an item stands in the row of all databases. */
    private static int place(int node, int item) {
        return node * ITEMS + item;
    }

    /** A fact in one int, so that a database is a plain row: version, then cost, then on or up. */
    private static final class Fact {
        static final int UNKNOWN = 0;
        private static final int PRICE_SHIFT = 1;
        private static final int PRICE_MASK = 63;
        private static final int VERSION_SHIFT = 7;

        private Fact() {
        }

        static int make(int version, int state, int price) {
            return (version << VERSION_SHIFT) | (price << PRICE_SHIFT) | state;
        }

        static int version(int fact) {
            return fact >>> VERSION_SHIFT;
        }

        /** 1 for on or up, 0 for off or down. */
        static int state(int fact) {
            return fact & 1;
        }

        static int price(int fact) {
            return (fact >>> PRICE_SHIFT) & PRICE_MASK;
        }
    }

    /** All that undo() restores: the things themselves, the databases and the count of messages. */
    private static final class Network {
        int nodes;
        int links;
        int tunnels;
        int messages;
        final int[] areas = new int[MAX_NODES];
        final int[] firsts = new int[MAX_LINKS];
        final int[] seconds = new int[MAX_LINKS];
        final int[] privates = new int[MAX_LINKS];
        final int[] entries = new int[MAX_TUNNELS];
        final int[] exits = new int[MAX_TUNNELS];
        /** The latest fact about each item, whoever knows it. */
        final int[] truth = new int[ITEMS];
        final int[] facts = new int[MAX_NODES * ITEMS];
        /** A bit for each item, by node. */
        final long[] news = new long[MAX_NODES];

        void makeEmpty() {
            nodes = 0;
            links = 0;
            tunnels = 0;
            messages = 0;
            Arrays.fill(truth, Fact.UNKNOWN);
            Arrays.fill(facts, Fact.UNKNOWN);
            Arrays.fill(news, 0L);
        }

        void copyFrom(Network other) {
            nodes = other.nodes;
            links = other.links;
            tunnels = other.tunnels;
            messages = other.messages;
            System.arraycopy(other.areas, 0, areas, 0, MAX_NODES);
            System.arraycopy(other.firsts, 0, firsts, 0, MAX_LINKS);
            System.arraycopy(other.seconds, 0, seconds, 0, MAX_LINKS);
            System.arraycopy(other.privates, 0, privates, 0, MAX_LINKS);
            System.arraycopy(other.entries, 0, entries, 0, MAX_TUNNELS);
            System.arraycopy(other.exits, 0, exits, 0, MAX_TUNNELS);
            System.arraycopy(other.truth, 0, truth, 0, ITEMS);
            System.arraycopy(other.facts, 0, facts, 0, MAX_NODES * ITEMS);
            System.arraycopy(other.news, 0, news, 0, MAX_NODES);
        }

        int createNode(int area) {
            areas[nodes] = area;
            nodes++;
            return nodes - 1;
        }

        int createLink(int first, int second, int cost, int isPrivate) {
            int link = links;
            firsts[link] = first;
            seconds[link] = second;
            privates[link] = isPrivate;
            links++;
            changeLink(link, 1, cost);
            return link;
        }

        /** A link that is just being created counts as one that was down. */
        int changeLink(int link, int up, int cost) {
            int item = FIRST_LINK + link;
            boolean comesUp = up == 1 && Fact.state(truth[item]) == 0;
            int version = change(item, up, cost);
            learn(firsts[link], item, truth[item]);
            learn(seconds[link], item, truth[item]);
            if (comesUp) {
                makeAllNews(firsts[link]);
                makeAllNews(seconds[link]);
            }
            return version;
        }

        int changeGrant(int owner, int area, int on) {
            int item = grantItem(owner, area);
            int version = change(item, on, 0);
            for (int node = 0; node < nodes; node++) {
                if (areas[node] == owner) {
                    learn(node, item, truth[item]);
                }
            }
            return version;
        }

        int createTunnel(int entry, int exit, int cost) {
            int tunnel = tunnels;
            entries[tunnel] = entry;
            exits[tunnel] = exit;
            tunnels++;
            changeTunnel(tunnel, 1, cost);
            return tunnel;
        }

        int changeTunnel(int tunnel, int up, int cost) {
            int item = FIRST_TUNNEL + tunnel;
            int version = change(item, up, cost);
            learn(entries[tunnel], item, truth[item]);
            return version;
        }

        private int change(int item, int state, int price) {
            int version = Fact.version(truth[item]) + 1;
            truth[item] = Fact.make(version, state, price);
            return version;
        }

        void learn(int node, int item, int fact) {
            int place = place(node, item);
            if (!mayKnow(node, item) || Fact.version(facts[place]) >= Fact.version(fact)) {
                return;
            }
            facts[place] = fact;
            news[node] |= 1L << item;
            if (item < FIRST_LINK) {
                if (Fact.state(fact) == 1) {
                    makePrivateLinksNews(node, grantOwner(item));
                } else if (grantArea(item) == areas[node]) {
                    forgetPrivateLinks(node, grantOwner(item));
                }
            }
        }

        private boolean mayKnow(int node, int item) {
            if (!isPrivateLink(item)) {
                return true;
            }
            int link = item - FIRST_LINK;
            int owner = owner(link);
            int grant = grantItem(owner, areas[node]);
            return isEnd(node, link) || areas[node] == owner || Fact.state(facts[place(node, grant)]) == 1;
        }

        private void makeAllNews(int node) {
            for (int item = 0; item < ITEMS; item++) {
                if (facts[place(node, item)] != Fact.UNKNOWN) {
                    news[node] |= 1L << item;
                }
            }
        }

        private void makePrivateLinksNews(int node, int owner) {
            for (int link = 0; link < links; link++) {
                int item = FIRST_LINK + link;
                if (isPrivateOf(link, owner) && facts[place(node, item)] != Fact.UNKNOWN) {
                    news[node] |= 1L << item;
                }
            }
        }

        private void forgetPrivateLinks(int node, int owner) {
            for (int link = 0; link < links; link++) {
                int item = FIRST_LINK + link;
                if (isPrivateOf(link, owner) && !isEnd(node, link)) {
                    facts[place(node, item)] = Fact.UNKNOWN;
                    news[node] &= ~(1L << item);
                }
            }
        }

        boolean isPrivateLink(int item) {
            return item >= FIRST_LINK && item < FIRST_TUNNEL && privates[item - FIRST_LINK] == 1;
        }

        private boolean isPrivateOf(int link, int owner) {
            return privates[link] == 1 && areas[firsts[link]] == owner;
        }

        int owner(int link) {
            return areas[firsts[link]];
        }

        boolean isEnd(int node, int link) {
            return firsts[link] == node || seconds[link] == node;
        }

        boolean isUp(int item) {
            return Fact.state(truth[item]) == 1;
        }

        /** The owners, a bit each, to whose private links an area is entitled by the grants themselves. */
        int entitlements(int area) {
            return ownersOpenTo(area, truth, 0);
        }

        /** The owners, a bit each, whose private links are open to an area by a node's database. */
        int disclosures(int node, int area) {
            return ownersOpenTo(area, facts, place(node, 0));
        }

        private static int ownersOpenTo(int area, int[] row, int start) {
            int owners = 1 << area;
            for (int owner = 0; owner < AREAS; owner++) {
                if (Fact.state(row[start + grantItem(owner, area)]) == 1) {
                    owners |= 1 << owner;
                }
            }
            return owners;
        }

        static boolean has(int owners, int owner) {
            return (owners >> owner & 1) == 1;
        }

        boolean isNews(int node, int item) {
            return (news[node] >> item & 1L) == 1L;
        }

        boolean isQuiet() {
            for (int node = 0; node < nodes; node++) {
                if (news[node] != 0L) {
                    return false;
                }
            }
            return true;
        }

        int countGrants() {
            int on = 0;
            for (int item = 0; item < FIRST_LINK; item++) {
                on += Fact.state(truth[item]);
            }
            return on;
        }

        int countFacts(int node) {
            int found = 0;
            for (int item = 0; item < ITEMS; item++) {
                if (facts[place(node, item)] != Fact.UNKNOWN) {
                    found++;
                }
            }
            return found;
        }

        int countBehind(int node) {
            int behind = 0;
            for (int item = 0; item < ITEMS; item++) {
                boolean isOlder = Fact.version(truth[item]) > Fact.version(facts[place(node, item)]);
                if (isOlder && !isHidden(node, item)) {
                    behind++;
                }
            }
            return behind;
        }

        int countSecrets(int node) {
            int secrets = 0;
            for (int item = FIRST_LINK; item < FIRST_TUNNEL; item++) {
                if (facts[place(node, item)] != Fact.UNKNOWN && isHidden(node, item)) {
                    secrets++;
                }
            }
            return secrets;
        }

        /** Whether the item is a private link that is, by the grants themselves, none of the node's business. */
        private boolean isHidden(int node, int item) {
            if (!isPrivateLink(item)) {
                return false;
            }
            int link = item - FIRST_LINK;
            return !isEnd(node, link) && !has(entitlements(areas[node]), owner(link));
        }
    }

    /** Lets rounds pass; it keeps apart what is sent, for databases change while messages are received. */
    private static final class Flood {
        private final int[] sentFacts = new int[MAX_NODES * ITEMS];
        private final long[] sentNews = new long[MAX_NODES];

        /** Returns the number of rounds that passed before the network was quiet, at most the given one. */
        int passRounds(Network network, int rounds) {
            int passed = 0;
            while (passed < rounds && !network.isQuiet()) {
                passRound(network);
                passed++;
            }
            return passed;
        }

        private void passRound(Network network) {
            System.arraycopy(network.facts, 0, sentFacts, 0, MAX_NODES * ITEMS);
            System.arraycopy(network.news, 0, sentNews, 0, MAX_NODES);
            Arrays.fill(network.news, 0L);
            network.messages += countMessages(network);
            for (int node = 0; node < network.nodes; node++) {
                receive(network, node);
            }
        }

        private int countMessages(Network network) {
            int messages = 0;
            for (int link = 0; link < network.links; link++) {
                if (network.isUp(FIRST_LINK + link)) {
                    messages += Long.bitCount(sentNews[network.firsts[link]]);
                    messages += Long.bitCount(sentNews[network.seconds[link]]);
                }
            }
            return messages;
        }

        /** A fact that comes over several links from the same sender is the same: it is learned once. */
        private void receive(Network network, int node) {
            int senders = sendersTo(network, node);
            for (int item = 0; item < ITEMS; item++) {
                for (int sender = 0; sender < network.nodes; sender++) {
                    if ((senders >> sender & 1) == 1 && (sentNews[sender] >> item & 1L) == 1L) {
                        network.learn(node, item, sentFacts[place(sender, item)]);
                    }
                }
            }
        }

        /** The nodes, a bit each, that have a link to this one that is up. */
        private static int sendersTo(Network network, int node) {
            int senders = 0;
            for (int link = 0; link < network.links; link++) {
                if (network.isUp(FIRST_LINK + link) && network.isEnd(node, link)) {
                    senders |= 1 << network.firsts[link];
                    senders |= 1 << network.seconds[link];
                }
            }
            return senders & ~(1 << node);
        }
    }

    /** The links and tunnels of a view, as edges with a direction, and the best paths to one node. */
    private static final class Graph {
        private static final int MAX_EDGES = 2 * MAX_LINKS + MAX_TUNNELS;
        /** A length is the cost times this plus the number of edges: so fewer edges win among equal costs. */
        private static final int COST_UNIT = 100;
        private static final int FAR = 1000000;

        private int nodes = 0;
        private int edges = 0;
        private final int[] starts = new int[MAX_EDGES];
        final int[] ends = new int[MAX_EDGES];
        private final int[] lengths = new int[MAX_EDGES];
        final int[] items = new int[MAX_EDGES];
        /** The length of the best path from each node to the one that was measured last. */
        private final int[] remaining = new int[MAX_NODES];

        void takeView(Network network, int node, int area, boolean withTunnels) {
            int start = place(node, 0);
            takeLinks(network, network.facts, start, network.disclosures(node, area));
            if (withTunnels) {
                takeTunnels(network, start);
            }
        }

        void takeTrueLinks(Network network, int owners) {
            takeLinks(network, network.truth, 0, owners);
        }

        private void takeLinks(Network network, int[] row, int start, int owners) {
            nodes = network.nodes;
            edges = 0;
            for (int link = 0; link < network.links; link++) {
                int item = FIRST_LINK + link;
                int fact = row[start + item];
                boolean isOpen = !network.isPrivateLink(item) || Network.has(owners, network.owner(link));
                if (isOpen && Fact.state(fact) == 1) {
                    addEdge(network.firsts[link], network.seconds[link], item, Fact.price(fact));
                    addEdge(network.seconds[link], network.firsts[link], item, Fact.price(fact));
                }
            }
        }

        private void takeTunnels(Network network, int start) {
            for (int tunnel = 0; tunnel < network.tunnels; tunnel++) {
                int item = FIRST_TUNNEL + tunnel;
                int fact = network.facts[start + item];
                if (Fact.state(fact) == 1) {
                    addEdge(network.entries[tunnel], network.exits[tunnel], item, Fact.price(fact));
                }
            }
        }

        private void addEdge(int start, int end, int item, int cost) {
            starts[edges] = start;
            ends[edges] = end;
            items[edges] = item;
            lengths[edges] = cost * COST_UNIT + 1;
            edges++;
        }

        void measureTo(int target) {
            Arrays.fill(remaining, FAR);
            remaining[target] = 0;
            boolean isBetter = true;
            for (int pass = 0; pass < nodes && isBetter; pass++) {
                isBetter = false;
                for (int edge = 0; edge < edges; edge++) {
                    if (lengthOver(edge) < remaining[starts[edge]]) {
                        remaining[starts[edge]] = lengthOver(edge);
                        isBetter = true;
                    }
                }
            }
        }

        private int lengthOver(int edge) {
            return lengths[edge] + remaining[ends[edge]];
        }

        int costFrom(int node) {
            return remaining[node] >= FAR ? NONE : remaining[node] / COST_UNIT;
        }

        /**
         * The first edge of the path to the measured node, or -1. The least next node begins the least
         * sequence of nodes; edges stand by ascending items, so the first one of equals is the right one.
         */
        int firstEdge(int node) {
            int best = -1;
            if (remaining[node] >= FAR) {
                return best;
            }
            for (int edge = 0; edge < edges; edge++) {
                boolean isOnPath = starts[edge] == node && lengthOver(edge) == remaining[node];
                if (isOnPath && (best < 0 || ends[edge] < ends[best])) {
                    best = edge;
                }
            }
            return best;
        }
    }

    /** A packet on its way, and the way that it has gone. */
    private static final class Packet {
        private static final int NO_TUNNEL = -1;
        /** Each tunnel is left over a link, so the packet takes at most one tunnel for each link and one more. */
        private static final int MAX_MOVES = 2 * MAX_CROSSED + 2;

        int crossed = 0;
        int cost = 0;
        final int[] stops = new int[MAX_CROSSED + 1];
        private int at = 0;
        private int area = 0;
        private int exit = NO_TUNNEL;

        /** Returns the result; what the packet has crossed stands in the fields then. */
        int travel(Network network, Graph graph, int from, int to) {
            crossed = 0;
            cost = 0;
            stops[0] = from;
            at = from;
            exit = NO_TUNNEL;
            area = network.areas[from];
            for (int moves = 0; moves < MAX_MOVES && !isDelivered(to); moves++) {
                int edge = chooseEdge(network, graph, to);
                if (edge < 0) {
                    return NO_ROUTE;
                }
                int item = graph.items[edge];
                int obstacle = obstacleAt(network, item);
                if (obstacle != DELIVERED) {
                    return obstacle;
                }
                move(network, item, graph.ends[edge]);
                leaveTunnelAtExit(network.areas[from]);
            }
            return isDelivered(to) ? DELIVERED : LOOP;
        }

        private boolean isDelivered(int to) {
            return at == to && exit == NO_TUNNEL;
        }

        private int chooseEdge(Network network, Graph graph, int to) {
            graph.takeView(network, at, area, exit == NO_TUNNEL);
            graph.measureTo(exit == NO_TUNNEL ? to : exit);
            return graph.firstEdge(at);
        }

        private int obstacleAt(Network network, int item) {
            if (!network.isUp(item)) {
                return DOWN;
            }
            if (item >= FIRST_TUNNEL) {
                return DELIVERED;
            }
            boolean isOpen = Network.has(network.entitlements(area), network.owner(item - FIRST_LINK));
            if (network.isPrivateLink(item) && !isOpen) {
                return DENIED;
            }
            return crossed >= MAX_CROSSED ? LOOP : DELIVERED;
        }

        private void move(Network network, int item, int end) {
            if (item >= FIRST_TUNNEL) {
                exit = end;
                area = network.areas[at];
                return;
            }
            cost += Fact.price(network.truth[item]);
            crossed++;
            stops[crossed] = end;
            at = end;
        }

        private void leaveTunnelAtExit(int ownArea) {
            if (at == exit) {
                exit = NO_TUNNEL;
                area = ownArea;
            }
        }
    }

    /** The text, and how load() reads it: from left to right, token by token. */
    private static final class Reader {
        private static final int END = 0;
        private static final int WORD = 1;
        private static final int NUMBER = 2;
        private static final int OTHER = 3;
        private static final int NOTHING = 0;
        private static final int NODE = 1;
        private static final int LINK = 2;
        private static final int PRIVATE = 3;
        private static final int GRANT = 4;
        private static final int TUNNEL = 5;
        private static final int NO_ERROR = -1;
        private static final int ERROR_BASE = -10;
        private static final int NO_NUMBER = -1;

        final char[] text = new char[MAX_TEXT];
        int length = 0;
        /** The latest token: where it starts and ends, and what it is. */
        private int start = 0;
        private int end = 0;
        private int kind = END;
        private int error = NO_ERROR;
        /** The latest item: what it adds, and its numbers. */
        private int thing = NOTHING;
        private int first = 0;
        private int second = 0;
        private int cost = 0;

        /** Returns the number of items, or -10 minus the error position (then the network is of no use). */
        int readNetwork(Network network) {
            network.makeEmpty();
            end = 0;
            error = NO_ERROR;
            int found = 0;
            takeToken();
            while (found < MAX_TEXT && kind != END) {
                readItem(network);
                if (error != NO_ERROR) {
                    return ERROR_BASE - error;
                }
                addThing(network);
                found++;
                takeToken();
            }
            return found;
        }

        private void addThing(Network network) {
            switch (thing) {
                case NODE: network.createNode(first); break;
                case LINK: network.createLink(first, second, cost, 0); break;
                case PRIVATE: network.createLink(first, second, cost, 1); break;
                case GRANT: network.changeGrant(first, second, 1); break;
                case TUNNEL: network.createTunnel(first, second, cost); break;
                default: break;
            }
        }

        private void readItem(Network network) {
            thing = tokenThing();
            switch (thing) {
                case NODE: readNode(network); break;
                case LINK: readLine(network, network.links < MAX_LINKS, MAX_LINK_COST); break;
                case PRIVATE: readLine(network, network.links < MAX_LINKS, MAX_LINK_COST); break;
                case GRANT: readGrant(network); break;
                case TUNNEL: readLine(network, network.tunnels < MAX_TUNNELS, MAX_TUNNEL_COST); break;
                default: fail(); break;
            }
            readSemicolon();
        }

        private void readNode(Network network) {
            if (network.nodes >= MAX_NODES) {
                fail();
            }
            first = readNumber(0, AREAS - 1, NO_NUMBER);
        }

        /** Links and tunnels alike. */
        private void readLine(Network network, boolean hasRoom, int highestCost) {
            if (!hasRoom) {
                fail();
            }
            first = readNumber(0, network.nodes - 1, NO_NUMBER);
            second = readNumber(0, network.nodes - 1, first);
            cost = readNumber(1, highestCost, NO_NUMBER);
        }

        private void readGrant(Network network) {
            first = readNumber(0, AREAS - 1, NO_NUMBER);
            second = readNumber(0, AREAS - 1, first);
            if (error == NO_ERROR && network.isUp(grantItem(first, second))) {
                fail();
            }
        }

        /** Behind an error nothing is read any more, so that the first one stays. */
        private int readNumber(int lowest, int highest, int excluded) {
            if (error != NO_ERROR) {
                return NO_NUMBER;
            }
            takeToken();
            int number = tokenNumber();
            if (number < lowest || number > highest || number == excluded) {
                fail();
            }
            return number;
        }

        private void readSemicolon() {
            if (error != NO_ERROR) {
                return;
            }
            takeToken();
            if (kind != OTHER || text[start] != ';') {
                fail();
            }
        }

        private void fail() {
            error = start;
        }

        /** At the end of the text the token is empty and starts at its length, as the error position wants it. */
        private void takeToken() {
            start = end;
            while (start < length && text[start] == ' ') {
                start++;
            }
            kind = kindAt(start);
            end = start;
            if (kind == OTHER) {
                end++;
            } else if (kind != END) {
                while (end < length && kindAt(end) == kind) {
                    end++;
                }
            }
        }

        private int kindAt(int position) {
            if (position >= length) {
                return END;
            }
            char sign = text[position];
            if (sign >= 'a' && sign <= 'z') {
                return WORD;
            }
            return sign >= '0' && sign <= '9' ? NUMBER : OTHER;
        }

        private int tokenThing() {
            if (isWord("node")) {
                return NODE;
            }
            if (isWord("link")) {
                return LINK;
            }
            if (isWord("private")) {
                return PRIVATE;
            }
            if (isWord("grant")) {
                return GRANT;
            }
            return isWord("tunnel") ? TUNNEL : NOTHING;
        }

        private boolean isWord(String word) {
            if (kind != WORD || end - start != word.length()) {
                return false;
            }
            for (int i = 0; i < word.length(); i++) {
                if (text[start + i] != word.charAt(i)) {
                    return false;
                }
            }
            return true;
        }

        /** The number that the token is; NO_NUMBER if it is not one or two digits without a useless 0. */
        private int tokenNumber() {
            int digits = end - start;
            if (kind != NUMBER || digits > 2 || (digits == 2 && text[start] == '0')) {
                return NO_NUMBER;
            }
            int number = 0;
            for (int i = start; i < end; i++) {
                number = number * 10 + (text[i] - '0');
            }
            return number;
        }
    }
}
