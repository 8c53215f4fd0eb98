/**
 * A simulation of networks with chains of address translators, of packets that go out and in
 * through them, and of hosts that punch holes to reach each other.
 *
 * <p>Inside, an endpoint is one int (node * 10000 + port). All rows are made once and used again:
 * a network that begins anew takes the nodes, translators and mappings of the one before it.
 */
public final class HolePuncher {
    /** There is nothing to return; as a net: the public net. */
    public static final int NONE = -1;

    private static final int MAX_NODES = 10;
    private static final int MAX_MAPPINGS = 8;
    private static final int MAX_CONTACTS = 8;
    private static final int MAX_PORT = 9999;
    private static final int MAX_TICK = 100000;
    private static final int MAX_PASS = 1000;
    private static final int MAX_PACKETS = 20;
    private static final int MAX_BUFFER = 40;
    private static final int ENDPOINT_BASE = MAX_PORT + 1;

    private static final int LAST_COUNT = 11;
    private static final int LAST_NODE_PROPERTY = 6;
    private static final int LAST_TRANSLATOR_PROPERTY = 8;
    private static final int LAST_MAPPING_PROPERTY = 6;

    private static final int UNREACHABLE = 1;
    private static final int NO_MAPPING = 2;
    private static final int FILTERED = 3;
    private static final int NO_HAIRPIN = 4;
    private static final int NO_ROOM = 5;

    private static final int PUNCH_PORT = 500;
    private static final int PUNCH_ROUNDS = 5;
    private static final int LAST_PUNCH_TICK = 99990;

    private final Network network = new Network();
    private final Network saved = new Network();
    /** For packets that are only tried. */
    private final Network trial = new Network();
    private final NetworkReader reader = new NetworkReader();
    private final int[] buffer = new int[MAX_BUFFER];
    private int bufferLength = 0;
    private boolean isSaved = false;

    public HolePuncher() {
    }

    // ---- networks

    public int begin() {
        int before = network.nodeCount;
        network.reset();
        isSaved = false;
        return before;
    }

    public int addHost(int net) throws IndexOutOfBoundsException, IllegalStateException {
        checkNet(net);
        if (network.isFull()) {
            throw new IllegalStateException("there are 10 nodes");
        }
        return network.newHost(net);
    }

    public int addTranslator(int net, int mapping, int filter, int assignment)
            throws IndexOutOfBoundsException, IllegalArgumentException, IllegalStateException {
        checkNet(net);
        if (!isWithin(mapping, 0, 2) || !isWithin(filter, 0, 2) || !isWithin(assignment, 0, 2)) {
            throw new IllegalArgumentException("a rule or the assignment is not 0 to 2");
        }
        if (network.isFull()) {
            throw new IllegalStateException("there are 10 nodes");
        }
        return network.newTranslator(net, mapping, filter, assignment);
    }

    public int setNumber(int translator, int what, int value)
            throws IndexOutOfBoundsException, IllegalArgumentException {
        Translator chosen = network.translatorAt(translator);
        if (chosen == null) {
            throw new IndexOutOfBoundsException("no such translator");
        }
        if (!isSetting(what, value)) {
            throw new IllegalArgumentException("no such number, or its value is out of range");
        }
        int before = chosen.setting(what);
        chosen.change(what, value);
        // A shorter lifetime may end mappings at once.
        chosen.dropDead(network.tick);
        return before;
    }

    public int pass(int ticks) throws IllegalArgumentException, IllegalStateException {
        if (!isWithin(ticks, 1, MAX_PASS)) {
            throw new IllegalArgumentException("ticks is not 1 to 1000");
        }
        if (network.tick + ticks > MAX_TICK) {
            throw new IllegalStateException("the tick would be greater than 100000");
        }
        return network.advance(ticks);
    }

    public int save() {
        saved.copyFrom(network);
        isSaved = true;
        return network.tick;
    }

    public int restore() throws IllegalStateException {
        if (!isSaved) {
            throw new IllegalStateException("no state is saved");
        }
        network.copyFrom(saved);
        return network.tick;
    }

    // ---- texts

    public int append(int code) throws IllegalArgumentException, IllegalStateException {
        if (!isWithin(code, 33, 126)) {
            throw new IllegalArgumentException("code is not 33 to 126");
        }
        if (bufferLength < 0 || bufferLength >= buffer.length) {
            throw new IllegalStateException("the buffer has 40 characters");
        }
        buffer[bufferLength] = code;
        bufferLength++;
        return bufferLength;
    }

    public int clearBuffer() {
        int before = bufferLength;
        bufferLength = 0;
        return before;
    }

    public int firstError() {
        return reader.readAll(buffer, bufferLength);
    }

    public int load() throws IllegalArgumentException {
        int read = reader.readAll(buffer, bufferLength);
        if (read != bufferLength || !reader.isComplete()) {
            throw new IllegalArgumentException("the buffer is not a complete network");
        }
        network.copyFrom(reader.made);
        isSaved = false;
        bufferLength = 0;
        return network.nodeCount;
    }

    // ---- packets

    public int send(int host, int port, int node, int remotePort)
            throws IndexOutOfBoundsException, IllegalArgumentException {
        checkPacket(host, port, node, remotePort);
        return network.carry(endpoint(host, port), endpoint(node, remotePort));
    }

    public int reply(int host) throws IndexOutOfBoundsException, IllegalStateException {
        Node sender = network.hostAt(host);
        if (sender == null) {
            throw new IndexOutOfBoundsException("no such host");
        }
        if (!sender.hasDelivery()) {
            throw new IllegalStateException("the host has no delivery");
        }
        return network.carry(endpoint(host, sender.deliveryPort), sender.deliverySource);
    }

    public int keepAlive(int host, int port, int node, int remotePort, int interval, int many)
            throws IndexOutOfBoundsException, IllegalArgumentException, IllegalStateException {
        checkPacket(host, port, node, remotePort);
        if (!isWithin(interval, 1, MAX_PASS) || !isWithin(many, 1, MAX_PACKETS)) {
            throw new IllegalArgumentException("interval is not 1 to 1000, or many not 1 to 20");
        }
        if (network.tick + interval * many > MAX_TICK) {
            throw new IllegalStateException("the tick would be greater than 100000");
        }
        int delivered = 0;
        for (int i = 0; i < many; i++) {
            if (network.carry(endpoint(host, port), endpoint(node, remotePort)) >= 0) {
                delivered++;
            }
            network.advance(interval);
        }
        return delivered;
    }

    public int punch(int a, int b, int server, boolean predict)
            throws IndexOutOfBoundsException, IllegalArgumentException, IllegalStateException {
        checkPunch(a, b, server);
        Peer peerA = new Peer(a);
        Peer peerB = new Peer(b);
        if (!showItself(peerA, server, 1) || !showItself(peerB, server, 1)) {
            return 0;
        }
        peerB.target = peerA.seen;
        peerA.target = peerB.seen;
        if (predict) {
            if (!showItself(peerA, server, 2) || !showItself(peerB, server, 2)) {
                return 0;
            }
            peerB.target = predicted(peerB.target, peerA.seen);
            peerA.target = predicted(peerA.target, peerB.seen);
        }
        for (int round = 1; round <= PUNCH_ROUNDS; round++) {
            knock(peerA, peerB);
            knock(peerB, peerA);
            network.advance(1);
            if (peerA.hasHeard && peerB.hasHeard) {
                return round;
            }
        }
        return NONE;
    }

    private void checkPunch(int a, int b, int server) {
        if (network.hostAt(a) == null || network.hostAt(b) == null || network.hostAt(server) == null) {
            throw new IndexOutOfBoundsException("one of the three is not a host");
        }
        if (a == b || a == server || b == server) {
            throw new IllegalArgumentException("two of the three are the same");
        }
        if (network.tick > LAST_PUNCH_TICK) {
            throw new IllegalStateException("the tick is greater than 99990");
        }
    }

    /** A peer sends to a port of the server, which sees its endpoint; false if it does not. */
    private boolean showItself(Peer peer, int server, int port) {
        int reached = network.carry(peer.home, endpoint(server, port));
        Node receiver = network.hostAt(reached);
        if (reached != server || receiver == null) {
            return false;
        }
        peer.seen = receiver.deliverySource;
        return true;
    }

    /** The second endpoint, as many ports further as it is from the first one. */
    private static int predicted(int first, int second) {
        int port = portOf(second) + (portOf(second) - portOf(first));
        return endpoint(nodeOf(second), isPort(port) ? port : portOf(second));
    }

    /** A peer sends to its target; if that reaches the other peer, that one has heard of it. */
    private void knock(Peer from, Peer to) {
        int reached = network.carry(from.home, from.target);
        Node receiver = network.hostAt(reached);
        if (reached == to.number && receiver != null && receiver.deliveryPort == PUNCH_PORT) {
            to.hasHeard = true;
            to.target = receiver.deliverySource;
        }
    }

    public int ifSent(int host, int port, int node, int remotePort)
            throws IndexOutOfBoundsException, IllegalArgumentException {
        checkPacket(host, port, node, remotePort);
        trial.copyFrom(network);
        return trial.carry(endpoint(host, port), endpoint(node, remotePort));
    }

    // ---- questions

    public int count(int what) throws IllegalArgumentException {
        if (!isWithin(what, 0, LAST_COUNT)) {
            throw new IllegalArgumentException("what is not 0 to 11");
        }
        return total(what);
    }

    public int node(int node, int what) throws IndexOutOfBoundsException, IllegalArgumentException {
        if (network.nodeAt(node) == null) {
            throw new IndexOutOfBoundsException("no such node");
        }
        if (!isWithin(what, 0, LAST_NODE_PROPERTY)) {
            throw new IllegalArgumentException("what is not 0 to 6");
        }
        return network.nodeProperty(node, what);
    }

    public int translator(int translator, int what)
            throws IndexOutOfBoundsException, IllegalArgumentException {
        Translator chosen = network.translatorAt(translator);
        if (chosen == null) {
            throw new IndexOutOfBoundsException("no such translator");
        }
        if (!isWithin(what, 0, LAST_TRANSLATOR_PROPERTY)) {
            throw new IllegalArgumentException("what is not 0 to 8");
        }
        return chosen.property(what);
    }

    public int mapping(int translator, int mapping, int what)
            throws IndexOutOfBoundsException, IllegalArgumentException {
        Translator chosen = network.translatorAt(translator);
        Mapping found = chosen == null ? null : chosen.mappingAt(mapping);
        if (chosen == null || found == null) {
            throw new IndexOutOfBoundsException("no such translator or mapping");
        }
        if (!isWithin(what, 0, LAST_MAPPING_PROPERTY)) {
            throw new IllegalArgumentException("what is not 0 to 6");
        }
        return found.property(what, chosen.ticksLeft(found, network.tick));
    }

    public int timeLeft(int host, int port, int node, int remotePort)
            throws IndexOutOfBoundsException, IllegalArgumentException {
        checkPacket(host, port, node, remotePort);
        return network.leastTicksLeft(endpoint(host, port), endpoint(node, remotePort));
    }

    public int common(int one, int other) throws IndexOutOfBoundsException {
        if (network.nodeAt(one) == null || network.nodeAt(other) == null) {
            throw new IndexOutOfBoundsException("no such node");
        }
        return network.commonNet(one, other);
    }

    public double delivery() {
        return network.sent == 0 ? 0.0 : (double) network.delivered / network.sent;
    }

    public long digest() {
        long hash = 1973;
        for (int what = 0; what <= LAST_COUNT; what++) {
            hash = 31 * hash + total(what);
        }
        for (int i = 0; i < network.nodeCount; i++) {
            hash = mixNode(hash, i);
        }
        hash = 31 * hash + bufferLength;
        for (int i = 0; i < bufferLength && i < buffer.length; i++) {
            hash = 31 * hash + buffer[i];
        }
        return hash;
    }

    private long mixNode(long start, int number) {
        long hash = start;
        for (int what = 0; what <= LAST_NODE_PROPERTY; what++) {
            hash = 31 * hash + network.nodeProperty(number, what);
        }
        Translator chosen = network.translatorAt(number);
        return chosen == null ? hash : mixTranslator(hash, chosen);
    }

    private long mixTranslator(long start, Translator chosen) {
        long hash = start;
        for (int what = 0; what <= LAST_TRANSLATOR_PROPERTY; what++) {
            hash = 31 * hash + chosen.property(what);
        }
        for (int i = 0; i < chosen.size; i++) {
            Mapping found = chosen.mappingAt(i);
            if (found != null) {
                hash = mixMapping(hash, found, chosen.ticksLeft(found, network.tick));
            }
        }
        return hash;
    }

    private static long mixMapping(long start, Mapping found, int ticksLeft) {
        long hash = start;
        for (int what = 0; what <= LAST_MAPPING_PROPERTY; what++) {
            hash = 31 * hash + found.property(what, ticksLeft);
        }
        return hash;
    }

    private int total(int what) {
        return what == LAST_COUNT ? (isSaved ? 1 : 0) : network.total(what);
    }

    // ---- checks

    private void checkNet(int net) {
        if (net != NONE && network.translatorAt(net) == null) {
            throw new IndexOutOfBoundsException("net is neither NONE nor a translator");
        }
    }

    private void checkPacket(int host, int port, int node, int remotePort) {
        if (network.hostAt(host) == null || network.nodeAt(node) == null) {
            throw new IndexOutOfBoundsException("no such host, or no such node");
        }
        if (!isPort(port) || !isPort(remotePort)) {
            throw new IllegalArgumentException("a port is not 1 to 9999");
        }
    }

    private static boolean isSetting(int what, int value) {
        switch (what) {
            case 0: return isWithin(value, 1, 9);
            case 1: return isWithin(value, 1, 1000);
            case 2:
            case 3: return isWithin(value, 0, 1);
            default: return false;
        }
    }

    private static boolean isWithin(int value, int least, int greatest) {
        return value >= least && value <= greatest;
    }

    private static boolean isPort(int port) {
        return port >= 1 && port <= MAX_PORT;
    }

    // ---- endpoints

    private static int endpoint(int node, int port) {
        return node * ENDPOINT_BASE + port;
    }

    private static int nodeOf(int endpoint) {
        return endpoint / ENDPOINT_BASE;
    }

    private static int portOf(int endpoint) {
        return endpoint % ENDPOINT_BASE;
    }

    /** One of the two hosts that punch. */
    private static final class Peer {
        final int number;
        /** The endpoint from which it sends. */
        final int home;
        /** Its endpoint as the server saw it the last time. */
        int seen = NONE;
        int target = NONE;
        boolean hasHeard = false;

        Peer(int number) {
            this.number = number;
            this.home = endpoint(number, PUNCH_PORT);
        }
    }

    /** All of the state but the buffer. */
    private static final class Network {
        /** Nodes from nodeCount on are null, or kept to be used again. */
        final Node[] nodes = new Node[MAX_NODES];
        /** Lost packets by their reason. */
        final int[] lost = new int[NO_ROOM + 1];
        int nodeCount = 0;
        int tick = 0;
        int sent = 0;
        int delivered = 0;

        void reset() {
            nodeCount = 0;
            tick = 0;
            sent = 0;
            delivered = 0;
            for (int i = 0; i < lost.length; i++) {
                lost[i] = 0;
            }
        }

        void copyFrom(Network other) {
            tick = other.tick;
            sent = other.sent;
            delivered = other.delivered;
            for (int i = 0; i < lost.length && i < other.lost.length; i++) {
                lost[i] = other.lost[i];
            }
            nodeCount = 0;
            for (int i = 0; i < other.nodeCount; i++) {
                Node original = other.nodeAt(i);
                Node copy = nextNode();
                if (original != null && copy != null) {
                    copy.copyFrom(original);
                }
            }
        }

        boolean isFull() {
            return nodeCount >= nodes.length;
        }

        Node nodeAt(int number) {
            boolean exists = number >= 0 && number < nodeCount && number < nodes.length;
            return exists ? nodes[number] : null;
        }

        Node hostAt(int number) {
            Node found = nodeAt(number);
            return found != null && found.isHost ? found : null;
        }

        Translator translatorAt(int number) {
            Node found = nodeAt(number);
            return found == null || found.isHost ? null : found.translation;
        }

        int netOf(int number) {
            Node found = nodeAt(number);
            return found == null ? NONE : found.net;
        }

        int newHost(int net) {
            Node added = nextNode();
            if (added == null) {
                return NONE;
            }
            added.becomeHost(net);
            return nodeCount - 1;
        }

        int newTranslator(int net, int mappingRule, int filterRule, int assignment) {
            Node added = nextNode();
            if (added == null) {
                return NONE;
            }
            // The random number starts at the node number plus 1, which is the new count.
            added.becomeTranslator(net).reset(mappingRule, filterRule, assignment, nodeCount);
            return nodeCount - 1;
        }

        private Node nextNode() {
            if (nodeCount < 0 || nodeCount >= nodes.length) {
                return null;
            }
            if (nodes[nodeCount] == null) {
                nodes[nodeCount] = new Node();
            }
            nodeCount++;
            return nodes[nodeCount - 1];
        }

        /** Lets ticks pass; returns how many mappings died. */
        int advance(int ticks) {
            tick += ticks;
            int died = 0;
            for (int i = 0; i < nodeCount; i++) {
                Translator here = translatorAt(i);
                if (here != null) {
                    died += here.dropDead(tick);
                }
            }
            return died;
        }

        /** Sends a packet and counts it; returns the host, or 0 minus the reason of its loss. */
        int carry(int source, int remote) {
            int seen = goOut(source, remote);
            int result = seen < 0 ? seen : comeIn(seen, remote);
            int reason = -result;
            sent++;
            if (result >= 0) {
                delivered++;
            } else if (reason < lost.length) {
                lost[reason]++;
            }
            return result;
        }

        /** Takes a packet outwards; returns its source endpoint there, or 0 minus the reason. */
        private int goOut(int source, int remote) {
            int goal = nodeOf(remote);
            int goalNet = netOf(goal);
            int net = netOf(nodeOf(source));
            int seen = source;
            int wentOutThrough = NONE;
            // A net's outer net has a lower number, so the way out has an end.
            for (int steps = 0; steps < MAX_NODES && net != goalNet; steps++) {
                Translator here = translatorAt(net);
                if (here == null) {
                    return -UNREACHABLE;
                }
                Mapping used = here.mappingOut(seen, remote);
                if (used == null) {
                    used = here.newMapping(seen, remote);
                }
                if (used == null) {
                    return -NO_ROOM;
                }
                used.lastUse = tick;
                used.addContact(remote);
                seen = endpoint(net, used.outerPort);
                wentOutThrough = net;
                net = netOf(net);
            }
            Translator gate = translatorAt(goal);
            boolean isRefused = gate != null && wentOutThrough == goal && !gate.allowsHairpins;
            return isRefused ? -NO_HAIRPIN : seen;
        }

        /** Takes a packet inwards; returns the host that it reaches, or 0 minus the reason. */
        private int comeIn(int source, int remote) {
            int place = remote;
            // An inner endpoint's node has a higher number, so the way in has an end.
            for (int steps = 0; steps < MAX_NODES; steps++) {
                Node receiver = hostAt(nodeOf(place));
                if (receiver != null) {
                    receiver.deliverySource = source;
                    receiver.deliveryPort = portOf(place);
                    return nodeOf(place);
                }
                Translator here = translatorAt(nodeOf(place));
                Mapping used = here == null ? null : here.mappingIn(portOf(place));
                if (here == null || used == null) {
                    return -NO_MAPPING;
                }
                if (!used.admits(source, here.filterRule)) {
                    return -FILTERED;
                }
                if (here.refreshesInwards) {
                    used.lastUse = tick;
                }
                place = used.inner;
            }
            return -NO_MAPPING;
        }

        /** The least ticks left of the mappings on the way out; NONE if one or all are missing. */
        int leastTicksLeft(int source, int remote) {
            int goalNet = netOf(nodeOf(remote));
            int net = netOf(nodeOf(source));
            int seen = source;
            int least = NONE;
            for (int steps = 0; steps < MAX_NODES && net != goalNet; steps++) {
                Translator here = translatorAt(net);
                if (here == null) {
                    return least;
                }
                Mapping used = here.mappingOut(seen, remote);
                if (used == null) {
                    return NONE;
                }
                int left = here.ticksLeft(used, tick);
                least = least == NONE ? left : Math.min(least, left);
                seen = endpoint(net, used.outerPort);
                net = netOf(net);
            }
            return least;
        }

        int commonNet(int one, int other) {
            int net = netOf(one);
            int otherNet = netOf(other);
            // The net with the higher number cannot be around the other one: leave it.
            for (int steps = 0; steps < 2 * MAX_NODES && net != otherNet; steps++) {
                if (net > otherNet) {
                    net = netOf(net);
                } else {
                    otherNet = netOf(otherNet);
                }
            }
            return net;
        }

        int total(int what) {
            switch (what) {
                case 0: return nodeCount;
                case 1: return hostsBehind(NONE);
                case 2: return tick;
                case 3: return mappingTotal();
                case 4: return sent;
                case 5: return delivered;
                case 6: return lost[UNREACHABLE];
                case 7: return lost[NO_MAPPING];
                case 8: return lost[FILTERED];
                case 9: return lost[NO_HAIRPIN];
                case 10: return lost[NO_ROOM];
                default: return NONE;
            }
        }

        private int mappingTotal() {
            int total = 0;
            for (int i = 0; i < nodeCount; i++) {
                Translator here = translatorAt(i);
                if (here != null) {
                    total += here.size;
                }
            }
            return total;
        }

        int nodeProperty(int number, int what) {
            Node chosen = nodeAt(number);
            if (chosen == null) {
                return NONE;
            }
            switch (what) {
                case 0: return chosen.isHost ? 0 : 1;
                case 1: return chosen.net;
                case 2: return depthOf(number);
                case 3: return chosen.isHost ? 0 : hostsBehind(number);
                case 4: return chosen.hasDelivery() ? nodeOf(chosen.deliverySource) : NONE;
                case 5: return chosen.hasDelivery() ? portOf(chosen.deliverySource) : NONE;
                case 6: return chosen.hasDelivery() ? chosen.deliveryPort : NONE;
                default: return NONE;
            }
        }

        private int depthOf(int number) {
            int depth = 0;
            int net = netOf(number);
            while (net != NONE && depth < MAX_NODES) {
                depth++;
                net = netOf(net);
            }
            return depth;
        }

        /** How many hosts are in a net or in the inner nets of it; NONE for the public net. */
        private int hostsBehind(int net) {
            int hosts = 0;
            for (int i = 0; i < nodeCount; i++) {
                if (hostAt(i) != null && isBehind(i, net)) {
                    hosts++;
                }
            }
            return hosts;
        }

        private boolean isBehind(int number, int net) {
            int around = netOf(number);
            for (int steps = 0; steps < MAX_NODES && around > net; steps++) {
                around = netOf(around);
            }
            return around == net;
        }
    }

    /** A host or a translator. */
    private static final class Node {
        boolean isHost = true;
        int net = NONE;
        int deliverySource = NONE;
        int deliveryPort = NONE;
        /** Null, or kept to be used again, while the node is a host. */
        Translator translation = null;

        boolean hasDelivery() {
            return deliverySource != NONE;
        }

        void becomeHost(int hostNet) {
            isHost = true;
            net = hostNet;
            deliverySource = NONE;
            deliveryPort = NONE;
        }

        Translator becomeTranslator(int outerNet) {
            becomeHost(outerNet);
            isHost = false;
            if (translation == null) {
                translation = new Translator();
            }
            return translation;
        }

        void copyFrom(Node other) {
            if (other.isHost || other.translation == null) {
                becomeHost(other.net);
            } else {
                becomeTranslator(other.net).copyFrom(other.translation);
            }
            deliverySource = other.deliverySource;
            deliveryPort = other.deliveryPort;
        }
    }

    /** What makes a node a translator: its rules, numbers and mappings. */
    private static final class Translator {
        static final int FIRST_PORT = 1000;
        static final int RANDOM_PORTS = 9000;
        static final int KEEPING = 0;
        static final int COUNTING = 1;
        static final int MOST_TRIES = 1000000;

        int mappingRule;
        int filterRule;
        int assignment;
        int step;
        int lifetime;
        boolean allowsHairpins;
        boolean refreshesInwards;
        int counter;
        long random;
        /** Mappings from size on are null, or kept to be used again. */
        final Mapping[] mappings = new Mapping[MAX_MAPPINGS];
        int size = 0;

        /** Begins as a new translator does; one that was just made is not yet fit for use. */
        void reset(int newMappingRule, int newFilterRule, int newAssignment, int seed) {
            mappingRule = newMappingRule;
            filterRule = newFilterRule;
            assignment = newAssignment;
            step = 1;
            lifetime = 60;
            allowsHairpins = false;
            refreshesInwards = false;
            counter = FIRST_PORT;
            random = seed;
            size = 0;
        }

        void copyFrom(Translator other) {
            mappingRule = other.mappingRule;
            filterRule = other.filterRule;
            assignment = other.assignment;
            step = other.step;
            lifetime = other.lifetime;
            allowsHairpins = other.allowsHairpins;
            refreshesInwards = other.refreshesInwards;
            counter = other.counter;
            random = other.random;
            size = 0;
            for (int i = 0; i < other.size; i++) {
                Mapping original = other.mappingAt(i);
                Mapping copy = nextMapping();
                if (original != null && copy != null) {
                    copy.copyFrom(original);
                }
            }
        }

        Mapping mappingAt(int number) {
            boolean exists = number >= 0 && number < size && number < mappings.length;
            return exists ? mappings[number] : null;
        }

        /** The mapping for packets from an inner endpoint to a remote one; null if none is there. */
        Mapping mappingOut(int inner, int remote) {
            int key = keyFor(remote);
            for (int i = 0; i < size && i < mappings.length; i++) {
                Mapping each = mappings[i];
                if (each != null && each.inner == inner && each.key == key) {
                    return each;
                }
            }
            return null;
        }

        /** The mapping with an outer port; null if none has it. */
        Mapping mappingIn(int outerPort) {
            for (int i = 0; i < size && i < mappings.length; i++) {
                Mapping each = mappings[i];
                if (each != null && each.outerPort == outerPort) {
                    return each;
                }
            }
            return null;
        }

        /** Makes a mapping; null if there is no room or no port for it. */
        Mapping newMapping(int inner, int remote) {
            if (size >= mappings.length) {
                return null;
            }
            int port;
            switch (assignment) {
                case KEEPING: port = keptPort(portOf(inner)); break;
                case COUNTING: port = countedPort(); break;
                default: port = randomPort(); break;
            }
            Mapping made = port == NONE ? null : nextMapping();
            if (made != null) {
                made.reset(inner, port, keyFor(remote));
            }
            return made;
        }

        private Mapping nextMapping() {
            if (size < 0 || size >= mappings.length) {
                return null;
            }
            if (mappings[size] == null) {
                mappings[size] = new Mapping();
            }
            size++;
            return mappings[size - 1];
        }

        /** NONE for rule 0; for rule 1 an endpoint whose port is 0, which no real one has. */
        private int keyFor(int remote) {
            switch (mappingRule) {
                case 0: return NONE;
                case 1: return endpoint(nodeOf(remote), 0);
                default: return remote;
            }
        }

        private int keptPort(int innerPort) {
            for (int port = innerPort; port <= MAX_PORT; port++) {
                if (mappingIn(port) == null) {
                    return port;
                }
            }
            return NONE;
        }

        private int countedPort() {
            // The counter comes round after a thousand ports or more, far more than mappings.
            for (int tries = 0; tries <= MAX_MAPPINGS; tries++) {
                int port = counter;
                counter += step;
                if (counter > MAX_PORT) {
                    counter = FIRST_PORT;
                }
                if (mappingIn(port) == null) {
                    return port;
                }
            }
            return NONE;
        }

        private int randomPort() {
            for (int tries = 0; tries < MOST_TRIES; tries++) {
                random = (1103515245L * random + 12345L) % 2147483648L;
                int port = FIRST_PORT + (int) (random / 65536L % RANDOM_PORTS);
                if (mappingIn(port) == null) {
                    return port;
                }
            }
            return NONE;
        }

        int ticksLeft(Mapping chosen, int tick) {
            return lifetime - (tick - chosen.lastUse);
        }

        /** Removes the dead mappings; the others keep their order. Returns how many there were. */
        int dropDead(int tick) {
            int before = size;
            int kept = 0;
            for (int i = 0; i < before && i < mappings.length; i++) {
                Mapping each = mappings[i];
                if (each != null && ticksLeft(each, tick) >= 0) {
                    // Swapped, not overwritten, so that the dead one can be used again.
                    mappings[i] = mappings[kept];
                    mappings[kept] = each;
                    kept++;
                }
            }
            size = kept;
            return before - kept;
        }

        int setting(int what) {
            switch (what) {
                case 0: return step;
                case 1: return lifetime;
                case 2: return allowsHairpins ? 1 : 0;
                case 3: return refreshesInwards ? 1 : 0;
                default: return NONE;
            }
        }

        void change(int what, int value) {
            switch (what) {
                case 0: step = value; break;
                case 1: lifetime = value; break;
                case 2: allowsHairpins = value == 1; break;
                case 3: refreshesInwards = value == 1; break;
                default: break;
            }
        }

        int property(int what) {
            switch (what) {
                case 0: return mappingRule;
                case 1: return filterRule;
                case 2: return assignment;
                case 3:
                case 4:
                case 5:
                case 6: return setting(what - 3);
                case 7: return size;
                case 8: return counter;
                default: return NONE;
            }
        }
    }

    /** A mapping of a translator. */
    private static final class Mapping {
        int inner = NONE;
        int outerPort = NONE;
        int key = NONE;
        int lastUse = 0;
        /** The contacts, the oldest first. */
        final int[] contacts = new int[MAX_CONTACTS];
        int contactCount = 0;

        void reset(int newInner, int newOuterPort, int newKey) {
            inner = newInner;
            outerPort = newOuterPort;
            key = newKey;
            contactCount = 0;
        }

        void copyFrom(Mapping other) {
            reset(other.inner, other.outerPort, other.key);
            lastUse = other.lastUse;
            contactCount = other.contactCount;
            for (int i = 0; i < contacts.length && i < other.contacts.length; i++) {
                contacts[i] = other.contacts[i];
            }
        }

        void addContact(int remote) {
            int gone = contactPlace(remote);
            if (gone == NONE && contactCount >= 0 && contactCount < contacts.length) {
                contacts[contactCount] = remote;
                contactCount++;
                return;
            }
            // The same contact moves to the end; without it the oldest one makes room.
            for (int i = Math.max(gone, 0); i + 1 < contactCount && i + 1 < contacts.length; i++) {
                contacts[i] = contacts[i + 1];
            }
            if (contactCount >= 1 && contactCount <= contacts.length) {
                contacts[contactCount - 1] = remote;
            }
        }

        private int contactPlace(int remote) {
            for (int i = 0; i < contactCount && i < contacts.length; i++) {
                if (contacts[i] == remote) {
                    return i;
                }
            }
            return NONE;
        }

        boolean admits(int source, int filterRule) {
            switch (filterRule) {
                case 0: return true;
                case 1: return hasContactAt(nodeOf(source));
                default: return contactPlace(source) != NONE;
            }
        }

        private boolean hasContactAt(int contactNode) {
            for (int i = 0; i < contactCount && i < contacts.length; i++) {
                if (nodeOf(contacts[i]) == contactNode) {
                    return true;
                }
            }
            return false;
        }

        int property(int what, int ticksLeft) {
            switch (what) {
                case 0: return nodeOf(inner);
                case 1: return portOf(inner);
                case 2: return outerPort;
                case 3: return key == NONE ? NONE : nodeOf(key);
                case 4: return key == NONE || portOf(key) == 0 ? NONE : portOf(key);
                case 5: return ticksLeft;
                case 6: return contactCount;
                default: return NONE;
            }
        }
    }

    /** Reads the text of a network from left to right, and makes the network meanwhile. */
    private static final class NetworkReader {
        static final int AT_NODE = 0;
        static final int AT_DIGIT = 1;
        static final int AT_PARENTHESIS = 2;

        /** Not the network that is simulated, as the text may turn out to be wrong. */
        final Network made = new Network();
        final int[] digits = new int[3];
        int expected = AT_NODE;
        int digitCount = 0;
        int net = NONE;

        /** Returns the index of the first error, or the length if there is none. */
        int readAll(int[] codes, int length) {
            made.reset();
            expected = AT_NODE;
            digitCount = 0;
            net = NONE;
            for (int i = 0; i < length && i < codes.length; i++) {
                if (!takes(codes[i])) {
                    return i;
                }
            }
            return length;
        }

        boolean isComplete() {
            return made.nodeCount > 0 && expected == AT_NODE && net == NONE;
        }

        private boolean takes(int code) {
            switch (expected) {
                case AT_NODE: return takesInNet(code);
                case AT_DIGIT: return takesDigit(code);
                default: return takesOpening(code);
            }
        }

        private boolean takesInNet(int code) {
            switch (code) {
                case 'h':
                    return made.newHost(net) != NONE;
                case 't':
                    expected = AT_DIGIT;
                    digitCount = 0;
                    return !made.isFull();
                case ')':
                    return leavesNet();
                default:
                    return false;
            }
        }

        private boolean leavesNet() {
            if (net == NONE) {
                return false;
            }
            net = made.netOf(net);
            return true;
        }

        private boolean takesDigit(int code) {
            if (code < '0' || code > '2' || digitCount < 0 || digitCount >= digits.length) {
                return false;
            }
            digits[digitCount] = code - '0';
            digitCount++;
            if (digitCount == digits.length) {
                expected = AT_PARENTHESIS;
            }
            return true;
        }

        private boolean takesOpening(int code) {
            if (code != '(') {
                return false;
            }
            net = made.newTranslator(net, digits[0], digits[1], digits[2]);
            expected = AT_NODE;
            return net != NONE;
        }
    }
}
