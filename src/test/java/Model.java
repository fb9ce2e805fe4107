import java.util.ArrayDeque;
import java.util.ArrayList;
import java.util.Collections;
import java.util.Comparator;
import java.util.List;
import java.util.Map;
import java.util.TreeMap;
import java.util.TreeSet;
import java.util.regex.Matcher;
import java.util.regex.Pattern;

/**
 * The document once more, written down slowly: maps in place of rows, all paths in place of
 * distances, every single message in place of masks. ModelTest compares the class with it.
 */
final class Model {
    record Fact(int version, int on, int cost) { }

    record Message(int to, int item, int from, int link, Fact fact) { }

    record Edge(int from, int to, int item, int cost) { }

    static final class Node {
        int area;
        TreeMap<Integer, Fact> facts = new TreeMap<>();
        TreeSet<Integer> news = new TreeSet<>();
    }

    static final class Link {
        int first;
        int second;
        boolean isPrivate;
    }

    static final class State {
        List<Node> nodes = new ArrayList<>();
        List<Link> links = new ArrayList<>();
        List<int[]> tunnels = new ArrayList<>();
        Map<Integer, Fact> items = new TreeMap<>();
        int messages;

        State() {
            for (int item = 0; item < 16; item++) {
                if (item / 4 != item % 4) {
                    items.put(item, new Fact(0, 0, 0));
                }
            }
        }

        State copy() {
            State copy = new State();
            for (Node node : nodes) {
                Node other = new Node();
                other.area = node.area;
                other.facts.putAll(node.facts);
                other.news.addAll(node.news);
                copy.nodes.add(other);
            }
            copy.links.addAll(links);
            copy.tunnels.addAll(tunnels);
            copy.items.putAll(items);
            copy.messages = messages;
            return copy;
        }

        boolean isPrivate(int item) {
            return item >= 16 && item < 32 && links.get(item - 16).isPrivate;
        }

        int owner(int item) {
            return nodes.get(links.get(item - 16).first).area;
        }

        boolean isEnd(int node, int item) {
            Link link = links.get(item - 16);
            return link.first == node || link.second == node;
        }

        boolean isEntitled(int area, int owner) {
            return area == owner || items.get(4 * owner + area).on == 1;
        }

        boolean knowsGrant(int node, int owner, int area) {
            Fact fact = nodes.get(node).facts.get(4 * owner + area);
            return fact != null && fact.on == 1;
        }

        boolean mayKnow(int node, int item) {
            return !isPrivate(item) || isEnd(node, item) || nodes.get(node).area == owner(item)
                || knowsGrant(node, owner(item), nodes.get(node).area);
        }

        int version(int node, int item) {
            Fact fact = nodes.get(node).facts.get(item);
            return fact == null ? 0 : fact.version;
        }

        void learn(int number, int item, Fact fact) {
            if (!mayKnow(number, item) || version(number, item) >= fact.version) {
                return;
            }
            Node node = nodes.get(number);
            node.facts.put(item, fact);
            node.news.add(item);
            if (item >= 16) {
                return;
            }
            for (int other : new ArrayList<>(node.facts.keySet())) {
                if (isPrivate(other) && owner(other) == item / 4) {
                    if (fact.on == 1) {
                        node.news.add(other);
                    } else if (item % 4 == node.area && !isEnd(number, other)) {
                        node.facts.remove(other);
                        node.news.remove(other);
                    }
                }
            }
        }

        boolean isQuiet() {
            return nodes.stream().allMatch(node -> node.news.isEmpty());
        }

        int round() {
            List<Message> sent = new ArrayList<>();
            for (int k = 0; k < links.size(); k++) {
                if (items.get(16 + k).on == 1) {
                    addMessages(sent, k, links.get(k).first, links.get(k).second);
                    addMessages(sent, k, links.get(k).second, links.get(k).first);
                }
            }
            nodes.forEach(node -> node.news.clear());
            sent.sort(Comparator.comparingInt(Message::to).thenComparingInt(Message::item)
                .thenComparingInt(Message::from).thenComparingInt(Message::link));
            sent.forEach(message -> learn(message.to, message.item, message.fact));
            messages += sent.size();
            return sent.size();
        }

        private void addMessages(List<Message> sent, int link, int from, int to) {
            for (int item : nodes.get(from).news) {
                sent.add(new Message(to, item, from, link, nodes.get(from).facts.get(item)));
            }
        }

        void setItem(int item, int on, int cost) {
            Fact old = items.get(item);
            items.put(item, new Fact(old == null ? 1 : old.version + 1, on, cost));
        }

        void setLinkItem(int k, int up, int cost) {
            Fact old = items.get(16 + k);
            setItem(16 + k, up, cost);
            int[] ends = {links.get(k).first, links.get(k).second};
            for (int end : ends) {
                learn(end, 16 + k, items.get(16 + k));
            }
            if (up == 1 && (old == null || old.on == 0)) {
                for (int end : ends) {
                    nodes.get(end).news.addAll(nodes.get(end).facts.keySet());
                }
            }
        }

        void setGrantItem(int owner, int area, int on) {
            setItem(4 * owner + area, on, 0);
            for (int i = 0; i < nodes.size(); i++) {
                if (nodes.get(i).area == owner) {
                    learn(i, 4 * owner + area, items.get(4 * owner + area));
                }
            }
        }

        void setTunnelItem(int k, int up, int cost) {
            setItem(32 + k, up, cost);
            learn(tunnels.get(k)[0], 32 + k, items.get(32 + k));
        }

        void newNode(int area) {
            Node node = new Node();
            node.area = area;
            nodes.add(node);
        }

        void newLink(int first, int second, int cost, boolean isPrivate) {
            Link link = new Link();
            link.first = first;
            link.second = second;
            link.isPrivate = isPrivate;
            links.add(link);
            setLinkItem(links.size() - 1, 1, cost);
        }

        void newTunnel(int entry, int exit, int cost) {
            tunnels.add(new int[] {entry, exit});
            setTunnelItem(tunnels.size() - 1, 1, cost);
        }

        List<Edge> view(int node, int area, boolean withTunnels) {
            List<Edge> edges = new ArrayList<>();
            nodes.get(node).facts.forEach((item, fact) -> {
                if (item >= 32 && fact.on == 1 && withTunnels) {
                    int[] tunnel = tunnels.get(item - 32);
                    edges.add(new Edge(tunnel[0], tunnel[1], item, fact.cost));
                } else if (item >= 16 && item < 32 && fact.on == 1) {
                    if (!isPrivate(item) || owner(item) == area || knowsGrant(node, owner(item), area)) {
                        addBoth(edges, item, fact.cost);
                    }
                }
            });
            return edges;
        }

        private void addBoth(List<Edge> edges, int item, int cost) {
            Link link = links.get(item - 16);
            edges.add(new Edge(link.first, link.second, item, cost));
            edges.add(new Edge(link.second, link.first, item, cost));
        }

        List<Edge> trueLinks(int area, int owner, int on) {
            List<Edge> edges = new ArrayList<>();
            items.forEach((item, fact) -> {
                if (item >= 16 && item < 32 && fact.on == 1) {
                    boolean isOpen = !isPrivate(item)
                        || (owner(item) == owner && area != owner ? on == 1 : isEntitled(area, owner(item)));
                    if (isOpen) {
                        addBoth(edges, item, fact.cost);
                    }
                }
            });
            return edges;
        }
    }

    /** Tries all simple paths; the order of the paths is told by the comparator alone. */
    static final class Search {
        private final List<Edge> edges;
        private final int target;
        private final List<Edge> path = new ArrayList<>();
        private List<Edge> best = null;

        Search(List<Edge> edges, int target) {
            this.edges = edges;
            this.target = target;
        }

        List<Edge> from(int node) {
            TreeSet<Integer> seen = new TreeSet<>();
            seen.add(node);
            walk(node, seen, 0);
            return best;
        }

        private void walk(int node, TreeSet<Integer> seen, int cost) {
            if (best != null && cost > costOf(best)) {
                return;
            }
            if (node == target) {
                if (best == null || ORDER.compare(path, best) < 0) {
                    best = new ArrayList<>(path);
                }
                return;
            }
            for (Edge edge : edges) {
                if (edge.from == node && seen.add(edge.to)) {
                    path.add(edge);
                    walk(edge.to, seen, cost + edge.cost);
                    path.remove(path.size() - 1);
                    seen.remove(edge.to);
                }
            }
        }
    }

    static int costOf(List<Edge> path) {
        return path.stream().mapToInt(Edge::cost).sum();
    }

    static int compareBy(List<Edge> a, List<Edge> b, java.util.function.ToIntFunction<Edge> key) {
        for (int i = 0; i < a.size() && i < b.size(); i++) {
            int order = Integer.compare(key.applyAsInt(a.get(i)), key.applyAsInt(b.get(i)));
            if (order != 0) {
                return order;
            }
        }
        return 0;
    }

    static final Comparator<List<Edge>> ORDER = Comparator
        .<List<Edge>>comparingInt(Model::costOf)
        .thenComparingInt(List::size)
        .thenComparing((a, b) -> compareBy(a, b, Edge::to))
        .thenComparing((a, b) -> compareBy(a, b, Edge::item));

    private State state = new State();
    private final ArrayDeque<State> history = new ArrayDeque<>();
    private String text = "";
    private List<Integer> way = null;
    private int wayCost = 0;

    private void action() {
        history.addLast(state.copy());
        if (history.size() > 5) {
            history.removeFirst();
        }
        way = null;
    }

    private static boolean in(int value, int low, int high) {
        return value >= low && value <= high;
    }

    private boolean node(int node) {
        return in(node, 0, state.nodes.size() - 1);
    }

    int addNode(int area) {
        if (!in(area, 0, 3)) return -1;
        if (state.nodes.size() == 10) return -3;
        action();
        state.newNode(area);
        return state.nodes.size() - 1;
    }

    int addLink(int first, int second, int cost, int isPrivate) {
        if (!node(first) || !node(second) || first == second) return -1;
        if (!in(cost, 1, 20) || !in(isPrivate, 0, 1)) return -1;
        if (state.links.size() == 16) return -3;
        action();
        state.newLink(first, second, cost, isPrivate == 1);
        return state.links.size() - 1;
    }

    int setLink(int link, int up, int cost) {
        if (!in(link, 0, state.links.size() - 1) || !in(up, 0, 1) || !in(cost, 1, 20)) return -1;
        Fact now = state.items.get(16 + link);
        if (now.on == up && now.cost == cost) return -2;
        action();
        state.setLinkItem(link, up, cost);
        return state.items.get(16 + link).version;
    }

    int setGrant(int owner, int area, int on) {
        if (!in(owner, 0, 3) || !in(area, 0, 3) || owner == area || !in(on, 0, 1)) return -1;
        if (state.items.get(4 * owner + area).on == on) return -2;
        action();
        state.setGrantItem(owner, area, on);
        return state.items.get(4 * owner + area).version;
    }

    int addTunnel(int entry, int exit, int cost) {
        if (!node(entry) || !node(exit) || entry == exit || !in(cost, 1, 40)) return -1;
        if (state.tunnels.size() == 3) return -3;
        action();
        state.newTunnel(entry, exit, cost);
        return state.tunnels.size() - 1;
    }

    int setTunnel(int tunnel, int up, int cost) {
        if (!in(tunnel, 0, state.tunnels.size() - 1) || !in(up, 0, 1) || !in(cost, 1, 40)) return -1;
        Fact now = state.items.get(32 + tunnel);
        if (now.on == up && now.cost == cost) return -2;
        action();
        state.setTunnelItem(tunnel, up, cost);
        return state.items.get(32 + tunnel).version;
    }

    int append(int character) {
        if (!in(character, 1, 255)) return -1;
        if (text.length() == 120) return -3;
        text += (char) character;
        return text.length();
    }

    int clearText() {
        int length = text.length();
        text = "";
        return length;
    }

    private static final Pattern TOKEN = Pattern.compile("[a-z]+|[0-9]+|[^ ]", Pattern.DOTALL);

    /** All tokens first; then each one is looked at with its place in the item. */
    int load() {
        List<String> tokens = new ArrayList<>();
        List<Integer> offsets = new ArrayList<>();
        Matcher matcher = TOKEN.matcher(text);
        while (matcher.find()) {
            tokens.add(matcher.group());
            offsets.add(matcher.start());
        }
        State fresh = new State();
        List<String> item = new ArrayList<>();
        int count = 0;
        for (int i = 0; i < tokens.size(); i++) {
            item.add(tokens.get(i));
            if (!isAllowed(fresh, item)) return -10 - offsets.get(i);
            if (tokens.get(i).equals(";")) {
                apply(fresh, item);
                item.clear();
                count++;
            }
        }
        if (!item.isEmpty()) return -10 - text.length();
        action();
        state = fresh;
        text = "";
        return count;
    }

    private static int number(String token) {
        return token.matches("0|[1-9][0-9]?") ? Integer.parseInt(token) : -1;
    }

    /** Whether the last token of an item begun is allowed, as those before it are. */
    private static boolean isAllowed(State fresh, List<String> item) {
        String last = item.get(item.size() - 1);
        int place = item.size() - 1;
        String word = item.get(0);
        int numbers = word.equals("node") ? 1 : word.equals("grant") ? 2 : 3;
        if (place == 0) {
            return switch (last) {
                case "node" -> fresh.nodes.size() < 10;
                case "link", "private" -> fresh.links.size() < 16;
                case "tunnel" -> fresh.tunnels.size() < 3;
                case "grant" -> true;
                default -> false;
            };
        }
        if (place > numbers) return last.equals(";");
        int number = number(last);
        if (word.equals("node")) return in(number, 0, 3);
        if (word.equals("grant")) {
            if (place == 1) return in(number, 0, 3);
            int owner = number(item.get(1));
            return in(number, 0, 3) && number != owner && fresh.items.get(4 * owner + number).on == 0;
        }
        if (place == 3) return in(number, 1, word.equals("tunnel") ? 40 : 20);
        return in(number, 0, fresh.nodes.size() - 1) && (place == 1 || !last.equals(item.get(1)));
    }

    private static void apply(State fresh, List<String> item) {
        int a = number(item.get(1));
        int b = item.size() > 3 ? number(item.get(2)) : 0;
        int c = item.size() > 4 ? number(item.get(3)) : 0;
        switch (item.get(0)) {
            case "node" -> fresh.newNode(a);
            case "link" -> fresh.newLink(a, b, c, false);
            case "private" -> fresh.newLink(a, b, c, true);
            case "grant" -> fresh.setGrantItem(a, b, 1);
            default -> fresh.newTunnel(a, b, c);
        }
    }

    int step(int rounds) {
        if (!in(rounds, 1, 40)) return -1;
        if (state.isQuiet()) return -2;
        action();
        int sum = 0;
        for (int i = 0; i < rounds; i++) {
            sum += state.round();
        }
        return sum;
    }

    private static int settle(State which) {
        int rounds = 0;
        while (!which.isQuiet()) {
            which.round();
            rounds++;
        }
        return rounds;
    }

    int settle() {
        if (state.isQuiet()) return -2;
        action();
        return settle(state);
    }

    int roundsToQuiet() {
        return settle(state.copy());
    }

    int undo() {
        if (history.isEmpty()) return -2;
        state = history.removeLast();
        way = null;
        return history.size();
    }

    int count(int what) {
        return switch (what) {
            case 0 -> state.nodes.size();
            case 1 -> state.links.size();
            case 2 -> state.tunnels.size();
            case 3 -> (int) state.items.entrySet().stream()
                .filter(e -> e.getKey() < 16 && e.getValue().on == 1).count();
            case 4 -> state.messages;
            case 5 -> history.size();
            case 6 -> text.length();
            default -> -1;
        };
    }

    int node(int number, int what) {
        if (!node(number) || !in(what, 0, 4)) return -1;
        Node node = state.nodes.get(number);
        int behind = 0;
        int secrets = 0;
        for (int item : state.items.keySet()) {
            boolean open = !state.isPrivate(item) || state.isEnd(number, item)
                || state.isEntitled(node.area, state.owner(item));
            if (open && state.items.get(item).version > state.version(number, item)) behind++;
            if (!open && node.facts.containsKey(item)) secrets++;
        }
        return List.of(node.area, node.facts.size(), node.news.size(), behind, secrets).get(what);
    }

    int link(int number, int what) {
        if (!in(number, 0, state.links.size() - 1) || !in(what, 0, 5)) return -1;
        Link link = state.links.get(number);
        Fact fact = state.items.get(16 + number);
        return List.of(link.first, link.second, fact.cost, fact.on, link.isPrivate ? 1 : 0, fact.version).get(what);
    }

    int tunnel(int number, int what) {
        if (!in(number, 0, state.tunnels.size() - 1) || !in(what, 0, 4)) return -1;
        int[] tunnel = state.tunnels.get(number);
        Fact fact = state.items.get(32 + number);
        return List.of(tunnel[0], tunnel[1], fact.cost, fact.on, fact.version).get(what);
    }

    int grant(int owner, int area, int what) {
        if (!in(owner, 0, 3) || !in(area, 0, 3) || owner == area || !in(what, 0, 1)) return -1;
        Fact fact = state.items.get(4 * owner + area);
        return what == 0 ? fact.on : fact.version;
    }

    int known(int number, int item, int what) {
        if (!node(number) || !state.items.containsKey(item) || !in(what, 0, 3)) return -1;
        Fact fact = state.nodes.get(number).facts.get(item);
        if (what == 0) return fact == null ? 0 : fact.version;
        if (what == 3) return state.nodes.get(number).news.contains(item) ? 1 : 0;
        return fact == null ? -9 : what == 1 ? fact.on : fact.cost;
    }

    int distance(int number, int to, int area) {
        if (!node(number) || !node(to) || !in(area, 0, 3)) return -1;
        List<Edge> path = new Search(state.view(number, area, true), to).from(number);
        return path == null ? -9 : costOf(path);
    }

    int next(int number, int to, int area, int part) {
        if (!node(number) || !node(to) || !in(area, 0, 3) || number == to || !in(part, 0, 1)) return -1;
        List<Edge> path = new Search(state.view(number, area, true), to).from(number);
        return path == null ? -9 : part == 0 ? path.get(0).to : path.get(0).item;
    }

    /** A trip carries itself: a tunnel is a trip of its own, to its exit. */
    private final class Trip {
        final List<Integer> stops = new ArrayList<>();
        int cost = 0;

        int go(int to, int area, boolean inTunnel) {
            while (at() != to) {
                List<Edge> path = new Search(state.view(at(), area, !inTunnel), to).from(at());
                if (path == null) return 1;
                int item = path.get(0).item;
                if (state.items.get(item).on == 0) return 2;
                if (state.isPrivate(item) && !state.isEntitled(area, state.owner(item))) return 3;
                if (item < 32 && stops.size() == 21) return 4;
                if (item < 32) {
                    cost += state.items.get(item).cost;
                    stops.add(path.get(0).to);
                } else {
                    int result = go(path.get(0).to, state.nodes.get(at()).area, true);
                    if (result != 0) return result;
                }
            }
            return 0;
        }

        private int at() {
            return stops.get(stops.size() - 1);
        }
    }

    private int travel(Trip trip, int from, int to) {
        trip.stops.add(from);
        return trip.go(to, state.nodes.get(from).area, false);
    }

    int send(int from, int to) {
        if (!node(from) || !node(to) || from == to) return -1;
        Trip trip = new Trip();
        int result = travel(trip, from, to);
        way = Collections.unmodifiableList(trip.stops);
        wayCost = trip.cost;
        return result;
    }

    int way(int index) {
        if (index < -2) return -1;
        if (way == null) return -2;
        if (index == -2) return wayCost;
        if (index == -1) return way.size() - 1;
        return index < way.size() ? way.get(index) : -9;
    }

    int outcomes(int result) {
        if (!in(result, 0, 4)) return -1;
        int pairs = 0;
        for (int from = 0; from < state.nodes.size(); from++) {
            for (int to = 0; to < state.nodes.size(); to++) {
                if (from != to && travel(new Trip(), from, to) == result) pairs++;
            }
        }
        return pairs;
    }

    private int idealIf(int from, int to, int owner, int on) {
        List<Edge> links = state.trueLinks(state.nodes.get(from).area, owner, on);
        List<Edge> path = new Search(links, to).from(from);
        return path == null ? -9 : costOf(path);
    }

    int ideal(int from, int to) {
        if (!node(from) || !node(to)) return -1;
        return idealIf(from, to, -1, 0);
    }

    int worth(int owner, int area) {
        if (!in(owner, 0, 3) || !in(area, 0, 3) || owner == area) return -1;
        int sum = 0;
        for (int from = 0; from < state.nodes.size(); from++) {
            for (int to = 0; to < state.nodes.size(); to++) {
                if (from != to && state.nodes.get(from).area == area) {
                    int off = idealIf(from, to, owner, 0);
                    int on = idealIf(from, to, owner, 1);
                    sum += (off == -9 ? 200 : off) - (on == -9 ? 200 : on);
                }
            }
        }
        return sum;
    }
}
