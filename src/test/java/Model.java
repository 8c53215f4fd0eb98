import java.util.ArrayList;
import java.util.List;
import java.util.Objects;

/**
 * The document once more, written for plainness alone: lists and records, new objects everywhere,
 * and whole copies where a state is saved or only tried. ModelTest compares HolePuncher with it.
 */
final class Model {
    record Endpoint(int node, int port) {
    }

    /** A key: nothing at all, a node without a port, or both. */
    record Key(Integer node, Integer port) {
    }

    static final class Mapping {
        Endpoint inner;
        int outer;
        Key key;
        int used;
        List<Endpoint> contacts = new ArrayList<>();

        Mapping copy() {
            Mapping m = new Mapping();
            m.inner = inner;
            m.outer = outer;
            m.key = key;
            m.used = used;
            m.contacts = new ArrayList<>(contacts);
            return m;
        }
    }

    static final class Node {
        boolean translator;
        int net;
        int[] rules = new int[3];
        int[] numbers = {1, 60, 0, 0};
        int counter = 1000;
        long z;
        List<Mapping> mappings = new ArrayList<>();
        Endpoint source;
        int at;

        Node copy() {
            Node n = new Node();
            n.translator = translator;
            n.net = net;
            n.rules = rules.clone();
            n.numbers = numbers.clone();
            n.counter = counter;
            n.z = z;
            for (Mapping m : mappings) {
                n.mappings.add(m.copy());
            }
            n.source = source;
            n.at = at;
            return n;
        }

        boolean taken(int port) {
            return mappings.stream().anyMatch(m -> m.outer == port);
        }
    }

    static final class State {
        List<Node> nodes = new ArrayList<>();
        int tick;
        int[] counts = new int[7];

        State copy() {
            State s = new State();
            for (Node n : nodes) {
                s.nodes.add(n.copy());
            }
            s.tick = tick;
            s.counts = counts.clone();
            return s;
        }
    }

    private State state = new State();
    private State saved = null;
    private String buffer = "";

    private boolean isNode(int n) {
        return n >= 0 && n < state.nodes.size();
    }

    private boolean isHost(int n) {
        return isNode(n) && !state.nodes.get(n).translator;
    }

    private boolean isTranslator(int n) {
        return isNode(n) && state.nodes.get(n).translator;
    }

    private static void index(boolean fine) {
        if (!fine) {
            throw new IndexOutOfBoundsException();
        }
    }

    private static void argument(boolean fine) {
        if (!fine) {
            throw new IllegalArgumentException();
        }
    }

    private static void state(boolean fine) {
        if (!fine) {
            throw new IllegalStateException();
        }
    }

    private static boolean in(int value, int least, int greatest) {
        return value >= least && value <= greatest;
    }

    int begin() {
        int before = state.nodes.size();
        state = new State();
        saved = null;
        return before;
    }

    int addHost(int net) {
        index(net == -1 || isTranslator(net));
        state(state.nodes.size() < 10);
        Node n = new Node();
        n.net = net;
        state.nodes.add(n);
        return state.nodes.size() - 1;
    }

    int addTranslator(int net, int mapping, int filter, int assignment) {
        index(net == -1 || isTranslator(net));
        argument(in(mapping, 0, 2) && in(filter, 0, 2) && in(assignment, 0, 2));
        state(state.nodes.size() < 10);
        Node n = new Node();
        n.translator = true;
        n.net = net;
        n.rules = new int[] {mapping, filter, assignment};
        n.z = state.nodes.size() + 1;
        state.nodes.add(n);
        return state.nodes.size() - 1;
    }

    int setNumber(int translator, int what, int value) {
        index(isTranslator(translator));
        argument(in(what, 0, 3));
        int[][] ranges = {{1, 9}, {1, 1000}, {0, 1}, {0, 1}};
        argument(in(value, ranges[what][0], ranges[what][1]));
        int[] numbers = state.nodes.get(translator).numbers;
        int before = numbers[what];
        numbers[what] = value;
        bury();
        return before;
    }

    private int bury() {
        int died = 0;
        for (Node n : state.nodes) {
            int before = n.mappings.size();
            n.mappings.removeIf(m -> state.tick - m.used > n.numbers[1]);
            died += before - n.mappings.size();
        }
        return died;
    }

    int pass(int ticks) {
        argument(in(ticks, 1, 1000));
        state(state.tick + ticks <= 100000);
        int died = 0;
        for (int i = 0; i < ticks; i++) {
            state.tick++;
            died += bury();
        }
        return died;
    }

    int save() {
        saved = state.copy();
        return state.tick;
    }

    int restore() {
        state(saved != null);
        state = saved.copy();
        return state.tick;
    }

    int append(int code) {
        argument(in(code, 33, 126));
        state(buffer.length() < 40);
        buffer += (char) code;
        return buffer.length();
    }

    int clearBuffer() {
        int before = buffer.length();
        buffer = "";
        return before;
    }

    /** Where the node that begins at an index ends; -1 if there is none. */
    private static int endOfNode(String text, int start, int net, Model into) {
        if (text.startsWith("h", start)) {
            if (into != null) {
                into.addHost(net);
            }
            return start + 1;
        }
        if (start >= text.length() || !text.substring(start).matches("t[0-2][0-2][0-2]\\(.*")) {
            return -1;
        }
        int inner = 0;
        if (into != null) {
            inner = into.addTranslator(net, text.charAt(start + 1) - '0', text.charAt(start + 2) - '0',
                    text.charAt(start + 3) - '0');
        }
        int at = start + 5;
        while (at < text.length() && text.charAt(at) != ')') {
            at = endOfNode(text, at, inner, into);
            if (at < 0) {
                return -1;
            }
        }
        return at < text.length() ? at + 1 : -1;
    }

    private static boolean isNetwork(String text) {
        if (text.isEmpty() || text.chars().filter(c -> c == 'h' || c == 't').count() > 10) {
            return false;
        }
        int at = 0;
        while (at >= 0 && at < text.length()) {
            at = endOfNode(text, at, -1, null);
        }
        return at >= 0;
    }

    /** Tries all endings that could be needed: the rest of a translator's head, and parentheses. */
    private static boolean beginsNetwork(String text) {
        String closing = "))))))))))";
        for (String middle : new String[] {"", "(", "0(", "00(", "000("}) {
            for (int closed = 0; closed <= 10; closed++) {
                if (isNetwork(text + middle + closing.substring(0, closed))) {
                    return true;
                }
            }
        }
        return false;
    }

    int firstError() {
        for (int i = 0; i < buffer.length(); i++) {
            if (!beginsNetwork(buffer.substring(0, i + 1))) {
                return i;
            }
        }
        return buffer.length();
    }

    int load() {
        argument(isNetwork(buffer));
        begin();
        for (int at = 0; at < buffer.length();) {
            at = endOfNode(buffer, at, -1, this);
        }
        buffer = "";
        return state.nodes.size();
    }

    private void checkPacket(int host, int port, int node, int remotePort) {
        index(isHost(host) && isNode(node));
        argument(in(port, 1, 9999) && in(remotePort, 1, 9999));
    }

    int send(int host, int port, int node, int remotePort) {
        checkPacket(host, port, node, remotePort);
        return sent(new Endpoint(host, port), new Endpoint(node, remotePort));
    }

    private int sent(Endpoint from, Endpoint to) {
        int result = way(from, to, state.nodes.get(from.node()).net, -1);
        state.counts[0]++;
        state.counts[result >= 0 ? 1 : 1 - result]++;
        return result;
    }

    private int way(Endpoint source, Endpoint remote, int net, int justOut) {
        Node goal = state.nodes.get(remote.node());
        if (goal.net == net) {
            if (justOut == remote.node() && goal.numbers[2] == 0) {
                return -4;
            }
            return arrive(source, remote);
        }
        if (net == -1) {
            return -1;
        }
        Mapping m = outgoing(state.nodes.get(net), source, remote);
        if (m == null) {
            return -5;
        }
        return way(new Endpoint(net, m.outer), remote, state.nodes.get(net).net, net);
    }

    private static Key keyFor(Node translator, Endpoint remote) {
        switch (translator.rules[0]) {
            case 0: return new Key(null, null);
            case 1: return new Key(remote.node(), null);
            default: return new Key(remote.node(), remote.port());
        }
    }

    private static Mapping find(Node translator, Endpoint source, Endpoint remote) {
        for (Mapping m : translator.mappings) {
            if (m.inner.equals(source) && m.key.equals(keyFor(translator, remote))) {
                return m;
            }
        }
        return null;
    }

    private Mapping outgoing(Node translator, Endpoint source, Endpoint remote) {
        Mapping m = find(translator, source, remote);
        if (m == null) {
            if (translator.mappings.size() == 8) {
                return null;
            }
            int port = newPort(translator, source.port());
            if (port > 9999) {
                return null;
            }
            m = new Mapping();
            m.inner = source;
            m.outer = port;
            m.key = keyFor(translator, remote);
            translator.mappings.add(m);
        }
        m.used = state.tick;
        m.contacts.remove(remote);
        m.contacts.add(remote);
        if (m.contacts.size() > 8) {
            m.contacts.remove(0);
        }
        return m;
    }

    private static int newPort(Node t, int inner) {
        if (t.rules[2] == 0) {
            int port = inner;
            while (t.taken(port)) {
                port++;
            }
            return port;
        }
        if (t.rules[2] == 1) {
            while (t.taken(t.counter)) {
                grow(t);
            }
            int port = t.counter;
            grow(t);
            return port;
        }
        int port;
        do {
            t.z = (1103515245L * t.z + 12345) & 0x7fffffffL;
            port = (int) (1000 + (t.z >> 16) % 9000);
        } while (t.taken(port));
        return port;
    }

    private static void grow(Node t) {
        t.counter = t.counter + t.numbers[0] > 9999 ? 1000 : t.counter + t.numbers[0];
    }

    private int arrive(Endpoint source, Endpoint at) {
        Node n = state.nodes.get(at.node());
        if (!n.translator) {
            n.source = source;
            n.at = at.port();
            return at.node();
        }
        for (Mapping m : n.mappings) {
            if (m.outer == at.port()) {
                boolean passes = n.rules[1] == 0
                        || n.rules[1] == 1 && m.contacts.stream().anyMatch(c -> c.node() == source.node())
                        || n.rules[1] == 2 && m.contacts.contains(source);
                if (!passes) {
                    return -3;
                }
                if (n.numbers[3] == 1) {
                    m.used = state.tick;
                }
                return arrive(source, m.inner);
            }
        }
        return -2;
    }

    int reply(int host) {
        index(isHost(host));
        Node n = state.nodes.get(host);
        state(n.source != null);
        return sent(new Endpoint(host, n.at), n.source);
    }

    int keepAlive(int host, int port, int node, int remotePort, int interval, int many) {
        checkPacket(host, port, node, remotePort);
        argument(in(interval, 1, 1000) && in(many, 1, 20));
        state((long) state.tick + (long) interval * many <= 100000);
        int delivered = 0;
        for (int i = 0; i < many; i++) {
            delivered += send(host, port, node, remotePort) >= 0 ? 1 : 0;
            pass(interval);
        }
        return delivered;
    }

    private Endpoint seenByServer(int host, int server, int port) {
        return send(host, 500, server, port) == server ? state.nodes.get(server).source : null;
    }

    private static Endpoint guess(Endpoint first, Endpoint second) {
        int port = 2 * second.port() - first.port();
        return new Endpoint(first.node(), in(port, 1, 9999) ? port : second.port());
    }

    int punch(int a, int b, int server, boolean predict) {
        index(isHost(a) && isHost(b) && isHost(server));
        argument(a != b && b != server && a != server);
        state(state.tick <= 99990);
        Endpoint firstA = seenByServer(a, server, 1);
        Endpoint firstB = firstA == null ? null : seenByServer(b, server, 1);
        if (firstB == null) {
            return 0;
        }
        Endpoint targetA = firstB;
        Endpoint targetB = firstA;
        if (predict) {
            Endpoint secondA = seenByServer(a, server, 2);
            Endpoint secondB = secondA == null ? null : seenByServer(b, server, 2);
            if (secondB == null) {
                return 0;
            }
            targetB = guess(firstA, secondA);
            targetA = guess(firstB, secondB);
        }
        boolean heardA = false;
        boolean heardB = false;
        for (int round = 1; round <= 5; round++) {
            if (send(a, 500, targetA.node(), targetA.port()) == b && state.nodes.get(b).at == 500) {
                heardB = true;
                targetB = state.nodes.get(b).source;
            }
            if (send(b, 500, targetB.node(), targetB.port()) == a && state.nodes.get(a).at == 500) {
                heardA = true;
                targetA = state.nodes.get(a).source;
            }
            pass(1);
            if (heardA && heardB) {
                return round;
            }
        }
        return -1;
    }

    int ifSent(int host, int port, int node, int remotePort) {
        State before = state.copy();
        int result = send(host, port, node, remotePort);
        state = before;
        return result;
    }

    int count(int what) {
        argument(in(what, 0, 11));
        switch (what) {
            case 0: return state.nodes.size();
            case 1: return (int) state.nodes.stream().filter(n -> !n.translator).count();
            case 2: return state.tick;
            case 3: return state.nodes.stream().mapToInt(n -> n.mappings.size()).sum();
            case 11: return saved == null ? 0 : 1;
            default: return state.counts[what - 4];
        }
    }

    private List<Integer> netsAround(int node) {
        List<Integer> nets = new ArrayList<>();
        for (int net = state.nodes.get(node).net; net != -1; net = state.nodes.get(net).net) {
            nets.add(net);
        }
        nets.add(-1);
        return nets;
    }

    int node(int node, int what) {
        index(isNode(node));
        argument(in(what, 0, 6));
        Node n = state.nodes.get(node);
        switch (what) {
            case 0: return n.translator ? 1 : 0;
            case 1: return n.net;
            case 2: return netsAround(node).size() - 1;
            case 3:
                int hosts = 0;
                for (int i = 0; i < state.nodes.size(); i++) {
                    hosts += isHost(i) && netsAround(i).contains(node) ? 1 : 0;
                }
                return hosts;
            case 4: return n.source == null ? -1 : n.source.node();
            case 5: return n.source == null ? -1 : n.source.port();
            default: return n.source == null ? -1 : n.at;
        }
    }

    int translator(int translator, int what) {
        index(isTranslator(translator));
        argument(in(what, 0, 8));
        Node n = state.nodes.get(translator);
        if (what < 3) {
            return n.rules[what];
        }
        return what < 7 ? n.numbers[what - 3] : what == 7 ? n.mappings.size() : n.counter;
    }

    int mapping(int translator, int mapping, int what) {
        index(isTranslator(translator) && in(mapping, 0, state.nodes.get(translator).mappings.size() - 1));
        argument(in(what, 0, 6));
        Node n = state.nodes.get(translator);
        Mapping m = n.mappings.get(mapping);
        switch (what) {
            case 0: return m.inner.node();
            case 1: return m.inner.port();
            case 2: return m.outer;
            case 3: return Objects.requireNonNullElse(m.key.node(), -1);
            case 4: return Objects.requireNonNullElse(m.key.port(), -1);
            case 5: return m.used + n.numbers[1] - state.tick;
            default: return m.contacts.size();
        }
    }

    int timeLeft(int host, int port, int node, int remotePort) {
        checkPacket(host, port, node, remotePort);
        Endpoint source = new Endpoint(host, port);
        Endpoint remote = new Endpoint(node, remotePort);
        List<Integer> times = new ArrayList<>();
        for (int net : netsAround(host)) {
            if (net == -1 || net == state.nodes.get(node).net) {
                break;
            }
            Node t = state.nodes.get(net);
            Mapping m = find(t, source, remote);
            if (m == null) {
                return -1;
            }
            times.add(m.used + t.numbers[1] - state.tick);
            source = new Endpoint(net, m.outer);
        }
        return times.stream().mapToInt(Integer::intValue).min().orElse(-1);
    }

    int common(int one, int other) {
        index(isNode(one) && isNode(other));
        List<Integer> nets = netsAround(one);
        nets.retainAll(netsAround(other));
        return nets.get(0);
    }

    double delivery() {
        return state.counts[0] == 0 ? 0.0 : (double) state.counts[1] / state.counts[0];
    }

    long digest() {
        List<Long> values = new ArrayList<>();
        for (int what = 0; what <= 11; what++) {
            values.add((long) count(what));
        }
        for (int i = 0; i < state.nodes.size(); i++) {
            for (int what = 0; what <= 6; what++) {
                values.add((long) node(i, what));
            }
            for (int what = 0; isTranslator(i) && what <= 8; what++) {
                values.add((long) translator(i, what));
            }
            for (int m = 0; m < state.nodes.get(i).mappings.size(); m++) {
                for (int what = 0; what <= 6; what++) {
                    values.add((long) mapping(i, m, what));
                }
            }
        }
        values.add((long) buffer.length());
        buffer.chars().forEach(c -> values.add((long) c));
        return Check.hash(values.stream().mapToLong(Long::longValue).toArray());
    }
}
