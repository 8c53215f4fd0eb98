/** The boundary cases of the paragraphs Networks, Translators and Mappings, and of the promises 1 to 8. */
public final class NetworkBoundsTest {
    private static final Class<?> INDEX = IndexOutOfBoundsException.class;
    private static final Class<?> STATE = IllegalStateException.class;
    private static final int NONE = HolePuncher.NONE;

    public static void main(String[] args) {
        tenNodes();
        lowerNumbers();
        deepestChain();
        ports();
        tick();
        ranges();
        firstNumbers();
        firstNumbersWork();
        keys();
        death();
        deathInKeepAlive();
        deathInPunch();
        deathBySetting();
        eightMappings();
        numbersOfMappings();
        newObject();
        begin();
        beginKeepsBuffer();
        setNumberReturns();
        passCounts();
        save();
        restore();
        Check.end();
    }

    private static void tenNodes() {
        Check.sentence("There are at most 10 nodes, numbered from 0 in the order in which they were added");
        HolePuncher x = new HolePuncher();
        for (int i = 0; i < 10; i++) {
            Check.due("the number of node " + i, i % 3 == 0 ? x.addTranslator(NONE, 0, 0, 0) : x.addHost(NONE), i);
            Check.due("the nodes", x.count(0), i + 1);
        }
        for (int i = 0; i < 10; i++) {
            Check.due("the kind of node " + i, x.node(i, 0), i % 3 == 0 ? 1 : 0);
        }
        Check.refuses("an 11th node, a host", x, STATE, () -> x.addHost(9));
        Check.refuses("an 11th node, a translator", x, STATE, () -> x.addTranslator(9, 0, 0, 0));
        Check.due("the nodes", x.count(0), 10);
        x.begin();
        Check.due("after begin there is room again", x.addHost(NONE), 0);
        HolePuncher y = Check.network("hhhhhhhhhh");
        Check.refuses("an 11th node after load", y, STATE, () -> y.addHost(NONE));
        y.save();
        y.restore();
        Check.refuses("an 11th node after restore", y, STATE, () -> y.addHost(NONE));
    }

    private static void lowerNumbers() {
        Check.sentence("Each node is in the public net or in the inner net of a translator with a lower number");
        HolePuncher x = new HolePuncher();
        for (int i = 0; i < 5; i++) {
            int next = i;
            Check.refuses("a host in the node after it", x, INDEX, () -> x.addHost(next + 1));
            Check.refuses("a translator in itself", x, INDEX, () -> x.addTranslator(next, 0, 0, 0));
            Check.refuses("a translator in the node after it", x, INDEX, () -> x.addTranslator(next + 1, 0, 0, 0));
            x.addTranslator(next - 1, 0, 0, 0);
        }
        for (int i = 0; i < 5; i++) {
            Check.due("a host in the net " + i, x.addHost(i), 5 + i);
            Check.due("its net", x.node(5 + i, 1), i);
            Check.due("the outer net of " + i, x.node(i, 1), i - 1);
        }
    }

    private static void deepestChain() {
        Check.sentence("Each node is in the public net or in the inner net of a translator: nine translators deep");
        HolePuncher x = new HolePuncher();
        for (int i = 0; i < 9; i++) {
            x.addTranslator(i - 1, 2, 2, i % 3);
        }
        Check.due("the host in the innermost net", x.addHost(8), 9);
        Check.due("translators on its way out", x.node(9, 2), 9);
        Check.due("hosts behind the outermost", x.node(0, 3), 1);
        Check.due("out to the outermost, no hairpin", x.send(9, 700, 0, 700), -4);
        Check.due("mappings on the way", x.count(3), 9);
        x.setNumber(0, 2, 1);
        Check.due("out through nine", x.send(9, 700, 0, 701), -2);
        HolePuncher y = new HolePuncher();
        for (int i = 0; i < 9; i++) {
            y.addTranslator(i - 1, 0, 0, 0);
        }
        y.addHost(8);
        y.setNumber(0, 2, 1);
        Check.due("out through nine, and in through nine", y.send(9, 700, 0, 700), 9);
        Check.due("seen as the outermost", y.node(9, 4), 0);
        Check.due("time left of nine mappings", y.timeLeft(9, 700, 0, 700), 60);
        Check.due("reply through all of them", y.reply(9), 9);
    }

    private static void ports() {
        Check.sentence("An endpoint is a node and a port; ports are 1 to 9999.");
        HolePuncher x = Check.network("hht000(h)");
        for (int port : new int[] {1, 9999}) {
            for (int remotePort : new int[] {1, 9999}) {
                Check.due("a packet", x.send(1, port, 0, remotePort), 0);
                Check.due("its source", x.node(0, 4), 1);
                Check.due("its source port", x.node(0, 5), port);
                Check.due("its port", x.node(0, 6), remotePort);
            }
            Check.due("through a translator", x.send(3, port, 1, 1), 1);
            Check.due("the source port", x.node(1, 5), port);
            Check.due("back through it", x.reply(1), 3);
            Check.due("the port", x.node(3, 6), port);
        }
    }

    private static void tick() {
        Check.sentence("The tick is 0 at first, and at most 100000.");
        HolePuncher x = new HolePuncher();
        Check.due("the first tick", x.count(2), 0);
        x.addHost(NONE);
        for (int i = 0; i < 5; i++) {
            Check.due("twenty packets", x.keepAlive(0, 1, 0, 1, 1000, 20), 20);
        }
        Check.due("the last tick", x.count(2), 100000);
        Check.due("save() there", x.save(), 100000);
        Check.refuses("pass(1)", x, STATE, () -> x.pass(1));
        Check.refuses("keepAlive", x, STATE, () -> x.keepAlive(0, 1, 0, 1, 1, 1));
        Check.due("packets are sent all the same", x.send(0, 1, 0, 1), 0);
        Check.due("restore()", x.restore(), 100000);
        x.begin();
        Check.due("the tick after begin", x.count(2), 0);
        for (int i = 0; i < 100; i++) {
            x.pass(1000);
        }
        Check.due("the last tick by pass", x.count(2), 100000);
    }

    private static void ranges() {
        Check.sentence("A translator has a mapping rule, a filter rule and an assignment, each 0 to 2; "
                + "a step from 1 to 9 and a lifetime from 1 to 1000");
        HolePuncher x = new HolePuncher();
        for (int rules = 0; rules < 27; rules++) {
            x.begin();
            x.addTranslator(NONE, rules / 9, rules / 3 % 3, rules % 3);
            Check.due("mapping rule", x.translator(0, 0), rules / 9);
            Check.due("filter rule", x.translator(0, 1), rules / 3 % 3);
            Check.due("assignment", x.translator(0, 2), rules % 3);
        }
        for (int step = 1; step <= 9; step++) {
            x.setNumber(0, 0, step);
            Check.due("step", x.translator(0, 3), step);
        }
        for (int lifetime : new int[] {1, 2, 59, 60, 61, 999, 1000}) {
            x.setNumber(0, 1, lifetime);
            Check.due("lifetime", x.translator(0, 4), lifetime);
        }
    }

    private static void checkFirstNumbers(HolePuncher x, int translator) {
        int[] first = {1, 60, 0, 0, 0, 1000};
        for (int what = 3; what <= 8; what++) {
            Check.due("translator(" + translator + ", " + what + ")", x.translator(translator, what), first[what - 3]);
        }
    }

    private static void change(HolePuncher x, int translator) {
        x.setNumber(translator, 0, 9);
        x.setNumber(translator, 1, 1000);
        x.setNumber(translator, 2, 1);
        x.setNumber(translator, 3, 1);
    }

    private static void firstNumbers() {
        Check.sentence("At first the step is 1, the lifetime is 60, it allows no hairpins, and does not refresh inwards.");
        HolePuncher x = new HolePuncher();
        x.addTranslator(NONE, 1, 1, 1);
        checkFirstNumbers(x, 0);
        x.addHost(0);
        change(x, 0);
        x.addTranslator(NONE, 0, 0, 0);
        checkFirstNumbers(x, 2);
        x.send(1, 5, 2, 5);
        Check.due("the counter has grown", x.translator(0, 8), 1009);
        x.begin();
        x.addTranslator(NONE, 1, 1, 1);
        checkFirstNumbers(x, 0);
        x.addHost(0);
        change(x, 0);
        x.send(1, 5, 0, 5);
        Check.type(x, "t111(h)t222()");
        x.load();
        checkFirstNumbers(x, 0);
        checkFirstNumbers(x, 2);
    }

    private static void firstNumbersWork() {
        Check.sentence("At first the step is 1, the lifetime is 60, it allows no hairpins, and does not refresh "
                + "inwards: as packets meet it");
        HolePuncher x = Check.network("t001(hh)h");
        x.send(1, 5, 3, 5);
        x.send(2, 5, 3, 5);
        Check.due("the step between two ports", x.mapping(0, 1, 2) - x.mapping(0, 0, 2), 1);
        Check.due("a hairpin", x.send(1, 5, 0, 1001), -4);
        x.pass(60);
        Check.due("mappings at 60", x.count(3), 2);
        Check.due("inwards at 60", x.send(3, 5, 0, 1000), 1);
        Check.due("both die at 61", x.pass(1), 2);
    }

    private static void keys() {
        Check.sentence("The key for a remote endpoint is nothing for the mapping rule 0, the remote node for rule 1, "
                + "and the remote endpoint for rule 2.");
        HolePuncher x = Check.network("hht000(h)t100(h)t200(h)");
        int[][] packets = {{0, 1}, {0, 9999}, {1, 1}, {1, 9999}, {0, 1}};
        int[] sizes = {1, 2, 4};
        for (int rule = 0; rule <= 2; rule++) {
            int translator = 2 + 2 * rule;
            for (int[] packet : packets) {
                x.send(translator + 1, 500, packet[0], packet[1]);
            }
            Check.due("mappings for rule " + rule, x.translator(translator, 7), sizes[rule]);
        }
        // Node 0 is a key, which is not the same as none.
        int[][] keys = {{2, 0, NONE, NONE}, {4, 0, 0, NONE}, {4, 1, 1, NONE},
            {6, 0, 0, 1}, {6, 1, 0, 9999}, {6, 2, 1, 1}, {6, 3, 1, 9999}};
        for (int[] key : keys) {
            Check.due("the node of the key", x.mapping(key[0], key[1], 3), key[2]);
            Check.due("the port of the key", x.mapping(key[0], key[1], 4), key[3]);
        }
    }

    private static void death() {
        Check.sentence("A mapping dies, and is removed, as soon as the tick minus that of its latest use is greater "
                + "than the lifetime.");
        for (int lifetime : new int[] {1, 2, 60, 999, 1000}) {
            HolePuncher x = Check.network("t000(h)h");
            x.setNumber(0, 1, lifetime);
            x.send(1, 500, 2, 1);
            Check.due("the time it has", x.mapping(0, 0, 5), lifetime);
            Check.due("deaths at the lifetime", x.pass(lifetime), 0);
            Check.due("the time it has then", x.mapping(0, 0, 5), 0);
            Check.due("it is used inwards", x.send(2, 1, 0, 500), 1);
            Check.due("deaths one tick later", x.pass(1), 1);
            Check.due("mappings", x.count(3), 0);
            Check.due("it is not used inwards", x.send(2, 1, 0, 500), -2);
            x.send(1, 500, 2, 1);
            x.pass(lifetime);
            x.send(1, 500, 2, 1);
            Check.due("used at its last tick it lives on", x.pass(lifetime), 0);
            Check.due("with one tick more it dies", x.pass(1), 1);
        }
        HolePuncher y = Check.network("t000(h)h");
        y.send(1, 500, 2, 1);
        Check.due("long after its time", y.pass(1000), 1);
    }

    private static void deathInKeepAlive() {
        Check.sentence("A mapping dies, and is removed, as soon as the tick minus that of its latest use is greater "
                + "than the lifetime: in keepAlive");
        HolePuncher x = Check.network("t001(h)h");
        x.setNumber(0, 1, 7);
        x.keepAlive(1, 500, 2, 1, 7, 20);
        Check.due("one mapping for 20 packets", x.translator(0, 8), 1001);
        Check.due("it lives", x.mapping(0, 0, 5), 0);
        x.pass(1);
        x.keepAlive(1, 500, 2, 1, 8, 20);
        Check.due("a mapping for each of 20 packets", x.translator(0, 8), 1021);
        Check.due("none is left", x.count(3), 0);
    }

    private static void deathInPunch() {
        Check.sentence("A mapping dies, and is removed, as soon as the tick minus that of its latest use is greater "
                + "than the lifetime: in punch");
        // The mappings to the server are used at the tick 0 alone; the rounds last until 5.
        int[][] want = {{6, 4}, {5, 4}, {4, 2}, {1, 2}};
        for (int[] row : want) {
            HolePuncher x = Check.network("ht220(hh)");
            x.setNumber(1, 1, row[0]);
            Check.due("punch without hairpins", x.punch(2, 3, 0, false), NONE);
            Check.due("mappings with the lifetime " + row[0], x.count(3), row[1]);
            Check.due("the time of the last", x.mapping(1, row[1] - 1, 5), row[0] - 1);
        }
    }

    private static void deathBySetting() {
        Check.sentence("A mapping dies, and is removed, as soon as the tick minus that of its latest use is greater "
                + "than the lifetime: by a shorter lifetime");
        HolePuncher x = Check.network("t200(h)t200(h)h");
        x.send(1, 500, 4, 1);
        x.send(3, 500, 4, 1);
        x.pass(10);
        x.send(1, 500, 4, 2);
        x.setNumber(0, 1, 10);
        Check.due("at the lifetime it lives", x.translator(0, 7), 2);
        x.setNumber(0, 1, 9);
        Check.due("above it is dead at once", x.translator(0, 7), 1);
        Check.due("the other one is the first now", x.mapping(0, 0, 4), 2);
        Check.due("it was used just now", x.mapping(0, 0, 5), 9);
        Check.due("the dead one is not used", x.send(4, 1, 0, 500), -2);
        Check.due("those of another translator live", x.translator(2, 7), 1);
        x.setNumber(0, 1, 1000);
        Check.due("a longer lifetime brings none back", x.translator(0, 7), 1);
        Check.due("its time is longer", x.mapping(0, 0, 5), 1000);
        Check.due("nothing is left to die", x.pass(50), 0);
    }

    private static void eightMappings() {
        Check.sentence("A translator has at most 8 mappings");
        for (int assignment = 0; assignment <= 2; assignment++) {
            HolePuncher x = Check.network("ht20" + assignment + "(h)t20" + assignment + "(h)");
            for (int port = 1; port <= 8; port++) {
                Check.due("the mapping " + port, x.send(2, 500, 0, port), 0);
                Check.due("mappings", x.translator(1, 7), port);
            }
            Check.due("a ninth one", x.send(2, 500, 0, 9), -5);
            Check.due("another ninth one", x.send(2, 501, 0, 1), -5);
            Check.due("mappings", x.translator(1, 7), 8);
            Check.due("another translator has room", x.send(4, 500, 0, 1), 0);
            Check.due("all mappings", x.count(3), 9);
            for (int port = 1; port <= 8; port++) {
                Check.due("the old ones are used", x.send(2, 500, 0, port), 0);
            }
            x.pass(60);
            Check.due("a ninth one at their last tick", x.send(2, 500, 0, 9), -5);
            x.send(2, 500, 0, 3);
            Check.due("the others die", x.pass(1), 8);
            Check.due("one of the eight lives", x.translator(1, 7), 1);
            Check.due("there is room again", x.send(2, 500, 0, 9), 0);
        }
    }

    private static void numbersOfMappings() {
        Check.sentence("mappings, numbered from 0 in the order in which they were made");
        HolePuncher x = Check.network("ht202(h)");
        for (int port = 1; port <= 8; port++) {
            x.send(2, 500, 0, port);
        }
        x.pass(1);
        // The first, the last and one between are used again.
        for (int port : new int[] {8, 4, 1}) {
            x.send(2, 500, 0, port);
        }
        for (int i = 0; i < 8; i++) {
            Check.due("use changes no number", x.mapping(1, i, 4), i + 1);
        }
        Check.due("five die", x.pass(60), 5);
        checkKeys(x, 1, 4, 8);
        x.send(2, 500, 0, 5);
        checkKeys(x, 1, 4, 8, 5);
        x.send(2, 500, 0, 1);
        Check.due("two die", x.pass(1), 2);
        checkKeys(x, 1, 5);
        for (int port = 11; port <= 16; port++) {
            x.send(2, 500, 0, port);
        }
        checkKeys(x, 1, 5, 11, 12, 13, 14, 15, 16);
    }

    private static void checkKeys(HolePuncher x, int... ports) {
        Check.due("mappings", x.translator(1, 7), ports.length);
        for (int i = 0; i < ports.length; i++) {
            Check.due("the key of mapping " + i, x.mapping(1, i, 4), ports[i]);
        }
    }

    private static void newObject() {
        Check.sentence("Creates a network without nodes, and an empty buffer.");
        HolePuncher x = new HolePuncher();
        for (int what = 0; what <= 11; what++) {
            Check.due("count(" + what + ")", x.count(what), 0);
        }
        Check.refuses("node(0, 0)", x, INDEX, () -> x.node(0, 0));
        Check.due("firstError()", x.firstError(), 0);
        Check.due("pass(1) without nodes", x.pass(1), 0);
        Check.due("the first character", x.append('h'), 1);
        Check.due("an empty network is saved", new HolePuncher().save(), 0);
    }

    private static void begin() {
        Check.sentence("Begins a new network without nodes; the tick and all counts are 0, and no state is saved. "
                + "Returns how many nodes there were.");
        HolePuncher x = new HolePuncher();
        Check.due("begin() of an empty network", x.begin(), 0);
        HolePuncher y = Unchanged.full();
        Check.due("begin() of a full network", y.begin(), 10);
        for (int what = 0; what <= 11; what++) {
            Check.due("count(" + what + ")", y.count(what), 0);
        }
        Check.dueDouble("delivery()", y.delivery(), 0.0);
        Check.refuses("restore()", y, STATE, y::restore);
        Check.due("begin() again", y.begin(), 0);
        y.save();
        Check.due("begin() of an empty network that is saved", y.begin(), 0);
        Check.due("count(11)", y.count(11), 0);
        Check.due("the first node", y.addHost(NONE), 0);
        Check.refuses("its delivery is not an old one", y, STATE, () -> y.reply(0));
    }

    private static void beginKeepsBuffer() {
        Check.sentence("The buffer stays.");
        HolePuncher x = new HolePuncher();
        Check.type(x, "t000()".repeat(6) + "hhhh");
        x.begin();
        Check.due("the first error of 40 characters", x.firstError(), 40);
        Check.due("load() of them", x.load(), 10);
        x.begin();
        Check.due("an empty buffer", x.clearBuffer(), 0);
    }

    private static void setNumberReturns() {
        Check.sentence("Sets a number of a translator. Returns the previous value.");
        HolePuncher x = Check.network("t000()t000()");
        int[][] values = {{1, 9, 1}, {60, 1000, 1}, {0, 1, 0}, {0, 1, 0}};
        for (int what = 0; what < 4; what++) {
            Check.due("the first value", x.setNumber(1, what, values[what][1]), values[what][0]);
            Check.due("the same value again", x.setNumber(1, what, values[what][1]), values[what][1]);
            Check.due("the least value", x.setNumber(1, what, values[what][2]), values[what][1]);
            Check.due("what it was", x.setNumber(1, what, values[what][1]), values[what][2]);
        }
        checkFirstNumbers(x, 0);
        Check.due("hairpins and refresh", x.translator(1, 5) + x.translator(1, 6), 2);
        x.setNumber(1, 3, 0);
        Check.due("refresh alone is off", 2 * x.translator(1, 5) + x.translator(1, 6), 2);
    }

    private static void passCounts() {
        Check.sentence("Lets ticks pass. Returns how many mappings died.");
        HolePuncher x = new HolePuncher();
        Check.due("pass(1000) without nodes", x.pass(1000), 0);
        HolePuncher y = Check.network("ht200(h)t200(h)t200(h)");
        for (int host = 2; host <= 6; host += 2) {
            for (int port = 1; port <= 8; port++) {
                y.send(host, 500, 0, port);
            }
        }
        y.setNumber(3, 1, 61);
        Check.due("none dies", y.pass(60), 0);
        Check.due("sixteen die", y.pass(1), 16);
        Check.due("eight die", y.pass(1), 8);
        Check.due("none is left", y.pass(1), 0);
        Check.due("the tick", y.count(2), 63);
    }

    private static void save() {
        Check.sentence("Saves the state (all but the buffer), in place of the one that was saved. Returns the tick.");
        HolePuncher x = Check.network("h");
        Check.due("save() at the tick 0", x.save(), 0);
        x.pass(4);
        x.addHost(NONE);
        Check.due("save() again", x.save(), 4);
        x.begin();
        x.save();
        x.addHost(NONE);
        x.addHost(NONE);
        x.restore();
        Check.due("an empty network was saved in place", x.count(0), 0);
        Check.type(x, "hh");
        x.save();
        x.clearBuffer();
        x.restore();
        Check.due("the buffer is not saved", x.clearBuffer(), 0);
        HolePuncher full = Unchanged.full();
        full.save();
        long digest = full.digest();
        full.setNumber(1, 1, 1);
        full.pass(1000);
        full.restore();
        Check.due("a full network", full.digest(), digest);
    }

    private static void restore() {
        Check.sentence("Restores the saved state, which stays saved. Returns the tick.");
        HolePuncher x = Unchanged.full();
        x.pass(7);
        x.save();
        long digest = x.digest();
        for (int i = 0; i < 3; i++) {
            x.pass(100);
            x.send(2, 600 + i, 0, 1);
            Check.due("restore()", x.restore(), 12);
            Check.due("count(11)", x.count(11), 1);
            Check.due("the digest", x.digest(), digest);
        }
        Check.due("restore() twice", x.restore(), 12);
        x.append('h');
        x.restore();
        Check.due("the buffer stays", x.clearBuffer(), 7);
    }
}
