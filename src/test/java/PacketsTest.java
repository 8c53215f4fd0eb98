import java.util.function.LongSupplier;

/** Promises 13 to 17: send, reply, keepAlive, punch, ifSent; and the ways of packets. */
public final class PacketsTest {
    private static final Class<?> INDEX = IndexOutOfBoundsException.class;
    private static final Class<?> ARGUMENT = IllegalArgumentException.class;
    private static final Class<?> STATE = IllegalStateException.class;

    public static void main(String[] args) {
        wrongPackets();
        sameNet();
        unreachable();
        mappingRules();
        filterRules();
        contacts();
        keptPorts();
        countedPorts();
        countedPortTaken();
        randomPorts();
        randomPortTaken();
        fullTranslator();
        hairpins();
        hairpinDeeper();
        inwards();
        chains();
        reply();
        keepAlive();
        punchOpen();
        punchFiltered();
        punchPredicted();
        punchPredictedOutOfRange();
        punchMeetsAnother();
        punchFailed();
        punchWrong();
        ifSent();
        Check.end();
    }

    private interface PacketCall {
        long run(int host, int port, int node, int remotePort);
    }

    private static void wrongPackets() {
        HolePuncher x = Check.network("t000(h)h");
        wrongPacket(x, "send", x::send);
        wrongPacket(x, "ifSent", x::ifSent);
        wrongPacket(x, "timeLeft", x::timeLeft);
        wrongPacket(x, "keepAlive", (h, p, n, q) -> x.keepAlive(h, p, n, q, 1, 1));
        Check.due("none of them was sent", x.count(4), 0);
    }

    private static void wrongPacket(HolePuncher x, String name, PacketCall call) {
        int[] extremes = {-1, 3, 10, Integer.MIN_VALUE, Integer.MAX_VALUE};
        for (int wrong : extremes) {
            Check.refuses(name + " host " + wrong, x, INDEX, () -> call.run(wrong, 1, 2, 1));
            Check.refuses(name + " node " + wrong, x, INDEX, () -> call.run(1, 1, wrong, 1));
            Check.refuses(name + " all wrong", x, INDEX, () -> call.run(wrong, 0, 2, 0));
            Check.refuses(name + " node and ports wrong", x, INDEX, () -> call.run(1, 0, wrong, 0));
        }
        Check.refuses(name + " from a translator", x, INDEX, () -> call.run(0, 1, 2, 1));
        for (int wrong : new int[] {0, -1, 10000, Integer.MIN_VALUE, Integer.MAX_VALUE}) {
            Check.refuses(name + " port " + wrong, x, ARGUMENT, () -> call.run(1, wrong, 2, 1));
            Check.refuses(name + " remote port " + wrong, x, ARGUMENT, () -> call.run(1, 1, 2, wrong));
        }
    }

    private static void sameNet() {
        HolePuncher x = Check.network("hht000(hh)");
        Check.due("to a host in the public net", x.send(0, 1, 1, 9999), 1);
        Check.due("to itself", x.send(0, 9999, 0, 1), 0);
        Check.due("to a host in an inner net", x.send(3, 5, 4, 6), 4);
        Check.due("no mapping is made", x.count(3), 0);
        Check.due("its source node", x.node(4, 4), 3);
        Check.due("its source port", x.node(4, 5), 5);
        Check.due("its port", x.node(4, 6), 6);
        Check.due("its source is the host itself", x.node(0, 4), 0);
        Check.due("delivered", x.count(5), 3);
    }

    private static void unreachable() {
        HolePuncher x = Check.network("ht000(h)t000(ht000(h))");
        Check.due("from the public net inwards", x.send(0, 1, 2, 1), -1);
        Check.due("no mapping", x.count(3), 0);
        Check.due("from one net to another", x.send(2, 1, 4, 1), -1);
        Check.due("its mapping stays", x.translator(1, 7), 1);
        Check.due("from two nets deep", x.send(6, 1, 2, 1), -1);
        Check.due("both mappings stay", x.translator(5, 7) + x.translator(3, 7), 2);
        Check.due("a node further in", x.send(4, 1, 6, 1), -1);
        Check.due("its mapping stays", x.translator(3, 7), 2);
        Check.due("an inner translator from outside", x.send(0, 1, 5, 1), -1);
        Check.due("lost for the reason 1", x.count(6), 5);
        Check.due("sent", x.count(4), 5);
    }

    private static void mappingRules() {
        HolePuncher x = Check.network("hht000(h)t100(h)t200(h)");
        int[][] want = {{2, 3, 1}, {4, 3, 2}, {6, 3, 3}};
        for (int[] row : want) {
            int host = row[0] + 1;
            x.send(host, 500, 0, 1);
            x.send(host, 500, 0, 2);
            x.send(host, 500, 1, 1);
            x.send(host, 500, 0, 1);
            Check.due("mappings of " + row[0], x.translator(row[0], 7), row[2]);
            x.send(host, 501, 0, 1);
            Check.due("another inner port", x.translator(row[0], 7), row[2] + 1);
        }
        int[][] keys = {{2, 0, -1, -1}, {4, 0, 0, -1}, {4, 1, 1, -1}, {6, 0, 0, 1}, {6, 1, 0, 2}, {6, 2, 1, 1}};
        for (int[] row : keys) {
            String name = "mapping(" + row[0] + ", " + row[1] + ", ";
            Check.due(name + "3)", x.mapping(row[0], row[1], 3), row[2]);
            Check.due(name + "4)", x.mapping(row[0], row[1], 4), row[3]);
        }
        Check.due("contacts for rule 0", x.mapping(2, 0, 6), 3);
        Check.due("contacts for rule 1", x.mapping(4, 0, 6), 2);
        Check.due("contacts for rule 2", x.mapping(6, 0, 6), 1);
    }

    private static void filterRules() {
        HolePuncher x = Check.network("hht000(h)t010(h)t020(h)");
        int[][] want = {{2, 3, 3, 3}, {4, 5, 5, -3}, {6, 7, -3, -3}};
        for (int[] row : want) {
            x.send(row[0] + 1, 500, 0, 7);
            Check.due("from the contact", x.send(0, 7, row[0], 500), row[0] + 1);
            Check.due("from its node", x.send(0, 8, row[0], 500), row[2]);
            Check.due("from another node", x.send(1, 7, row[0], 500), row[3]);
            Check.due("at a port without mapping", x.send(0, 7, row[0], 501), -2);
        }
        Check.due("lost for the reason 2", x.count(7), 3);
        Check.due("lost for the reason 3", x.count(8), 3);
        Check.due("a packet inwards makes no contact", x.mapping(2, 0, 6), 1);
    }

    private static void contacts() {
        HolePuncher x = Check.network("ht020(h)");
        for (int port = 1; port <= 8; port++) {
            x.send(2, 500, 0, port);
            Check.due("contacts", x.mapping(1, 0, 6), port);
        }
        x.send(2, 500, 0, 1);
        Check.due("the same contact is not listed twice", x.mapping(1, 0, 6), 8);
        x.send(2, 500, 0, 9);
        Check.due("only 8 are kept", x.mapping(1, 0, 6), 8);
        Check.due("the one used again stays", x.send(0, 1, 1, 500), 2);
        Check.due("the oldest is gone", x.send(0, 2, 1, 500), -3);
        for (int port = 3; port <= 9; port++) {
            Check.due("the contact " + port, x.send(0, port, 1, 500), 2);
        }
        x.send(2, 500, 0, 5);
        x.send(2, 500, 0, 10);
        x.send(2, 500, 0, 11);
        int[] known = {1, 5, 6, 7, 8, 9, 10, 11};
        for (int port : known) {
            Check.due("the contact " + port, x.send(0, port, 1, 500), 2);
        }
        Check.due("3 is gone", x.send(0, 3, 1, 500), -3);
        Check.due("4 is gone", x.send(0, 4, 1, 500), -3);
        HolePuncher y = Check.network("hht010(h)");
        y.send(3, 500, 1, 1);
        for (int port = 1; port <= 7; port++) {
            y.send(3, 500, 0, port);
        }
        Check.due("node 1 is still a contact", y.send(1, 9, 2, 500), 3);
        y.send(3, 500, 0, 8);
        Check.due("node 1 is no contact any more", y.send(1, 9, 2, 500), -3);
    }

    private static void keptPorts() {
        HolePuncher x = Check.network("ht200(h)");
        x.send(2, 9997, 0, 1);
        x.send(2, 9998, 0, 1);
        x.send(2, 9997, 0, 2);
        Check.due("the port itself", x.mapping(1, 0, 2), 9997);
        Check.due("the next free one", x.mapping(1, 2, 2), 9999);
        Check.due("none is free above", x.send(2, 9997, 0, 3), -5);
        Check.due("nor from the last one on", x.send(2, 9999, 0, 3), -5);
        Check.due("lost for the reason 5", x.count(10), 2);
        Check.due("nothing was made", x.translator(1, 7), 3);
        Check.due("below is free", x.send(2, 9996, 0, 3), 0);
        Check.due("the port below", x.mapping(1, 3, 2), 9996);
        Check.due("port 1", x.send(2, 1, 0, 3), 0);
        Check.due("it is kept", x.mapping(1, 4, 2), 1);
        Check.due("the counter is not used", x.translator(1, 8), 1000);
    }

    private static void countedPorts() {
        HolePuncher x = Check.network("ht201(h)");
        x.send(2, 500, 0, 1);
        x.setNumber(1, 0, 9);
        x.send(2, 500, 0, 2);
        x.send(2, 500, 0, 2);
        Check.due("the first port", x.mapping(1, 0, 2), 1000);
        Check.due("the second port", x.mapping(1, 1, 2), 1001);
        Check.due("the counter", x.translator(1, 8), 1010);
        x.setNumber(1, 1, 1);
        // Every packet needs a new mapping, as the one before is dead.
        while (x.translator(1, 8) + 20 * 9 <= 9990) {
            x.keepAlive(2, 500, 0, 3, 2, 20);
        }
        while (x.translator(1, 8) + 9 <= 9990) {
            x.keepAlive(2, 500, 0, 3, 2, 1);
        }
        int counter = x.translator(1, 8);
        x.setNumber(1, 0, 1);
        x.keepAlive(2, 500, 0, 3, 2, 9990 - counter);
        Check.due("the counter", x.translator(1, 8), 9990);
        x.setNumber(1, 0, 9);
        x.send(2, 500, 0, 4);
        Check.due("9999 is not too great", x.translator(1, 8), 9999);
        x.send(2, 500, 0, 5);
        Check.due("the last port", x.mapping(1, 1, 2), 9999);
        Check.due("then it begins anew", x.translator(1, 8), 1000);
        x.send(2, 500, 0, 6);
        Check.due("the first port again", x.mapping(1, 2, 2), 1000);
    }

    /** A mapping at 1000 is kept alive until the counter has come round to it. */
    private static void countedPortTaken() {
        HolePuncher x = Check.network("ht221(hh)");
        x.setNumber(1, 0, 9);
        x.setNumber(1, 1, 6);
        x.send(2, 600, 0, 1);
        for (int i = 0; i < 166; i++) {
            // Six new mappings; then they die while the one at 1000 is used.
            x.punch(2, 3, 0, true);
            x.keepAlive(2, 600, 0, 1, 1, 7);
        }
        Check.due("it lives on alone", x.translator(1, 7), 1);
        Check.due("at 1000", x.mapping(1, 0, 2), 1000);
        Check.due("the counter", x.translator(1, 8), 9973);
        for (int port = 2; port <= 4; port++) {
            x.send(2, 600, 0, port);
        }
        Check.due("the counter has come round", x.translator(1, 8), 1000);
        Check.due("a packet", x.send(2, 600, 0, 5), 0);
        Check.due("the taken port is passed over", x.mapping(1, 4, 2), 1009);
        Check.due("the counter behind it", x.translator(1, 8), 1018);
    }

    private static int nextRandomPort(long[] z) {
        z[0] = (1103515245L * z[0] + 12345) % (1L << 31);
        return (int) (1000 + z[0] / 65536 % 9000);
    }

    private static void randomPorts() {
        HolePuncher x = Check.network("ht202(hh)t202(h)");
        long[] z = {2};
        for (int i = 0; i < 8; i++) {
            x.send(2, 500, 0, i + 1);
            Check.due("random port " + i, x.mapping(1, i, 2), nextRandomPort(z));
        }
        Check.due("no room", x.send(2, 500, 0, 9), -5);
        x.pass(61);
        x.send(3, 500, 0, 9);
        Check.due("a lost packet takes no random number", x.mapping(1, 0, 2), nextRandomPort(z));
        x.send(5, 500, 0, 1);
        z[0] = 5;
        Check.due("the number of the node is the seed", x.mapping(4, 0, 2), nextRandomPort(z));
    }

    /** Goes to the first place where a random port comes again within seven. */
    private static void randomPortTaken() {
        int[] ports = new int[9000];
        long[] z = {2};
        for (int i = 0; i < ports.length; i++) {
            ports[i] = nextRandomPort(z);
        }
        int first = 0;
        int again = 0;
        for (int i = 0; i < ports.length && again == 0; i++) {
            for (int j = Math.max(0, i - 7); j < i; j++) {
                if (ports[j] == ports[i]) {
                    first = j;
                    again = i;
                }
            }
        }
        Check.isTrue("a port comes again soon enough", again > 0 && first < 20 * 400);
        HolePuncher x = Check.network("ht202(h)");
        x.setNumber(1, 1, 1);
        for (int skipped = 0; skipped < first; skipped += 20) {
            x.keepAlive(2, 500, 0, 9999, 2, Math.min(20, first - skipped));
        }
        for (int i = first; i < again; i++) {
            x.send(2, 500, 0, i - first + 1);
            Check.due("random port", x.mapping(1, i - first, 2), ports[i]);
        }
        x.send(2, 500, 0, 100);
        Check.due("the taken port is passed over", x.mapping(1, again - first, 2), ports[again + 1]);
    }

    private static void fullTranslator() {
        HolePuncher x = Check.network("ht201(h)");
        for (int port = 1; port <= 8; port++) {
            Check.due("mapping " + port, x.send(2, 500, 0, port), 0);
        }
        Check.due("the ninth", x.send(2, 500, 0, 9), -5);
        Check.due("the counter stays", x.translator(1, 8), 1008);
        Check.due("one that is there", x.send(2, 500, 0, 8), 0);
        Check.due("mappings", x.translator(1, 7), 8);
        HolePuncher y = Check.network("ht201(t000(h))");
        for (int port = 1; port <= 9; port++) {
            y.send(3, 500, 0, port);
        }
        Check.due("the inner one keeps what is lost further out", y.mapping(2, 0, 6), 8);
        Check.due("lost for the reason 5", y.count(10), 1);
    }

    private static void hairpins() {
        HolePuncher x = Check.network("t010(hh)h");
        x.send(2, 600, 3, 1);
        Check.due("no hairpin", x.send(1, 500, 0, 600), -4);
        Check.due("but a mapping", x.translator(0, 7), 2);
        Check.due("lost for the reason 4", x.count(9), 1);
        x.setNumber(0, 2, 1);
        Check.due("a hairpin that is filtered", x.send(1, 500, 0, 600), -3);
        x.send(2, 600, 0, 500);
        Check.due("that was delivered", x.node(1, 6), 500);
        Check.due("from the outer port", x.node(1, 4) * 10000 + x.node(1, 5), 600);
        Check.due("a hairpin", x.send(1, 500, 0, 600), 2);
        Check.due("a hairpin to itself", x.send(1, 500, 0, 500), -3 + 4);
        Check.due("a hairpin to a port without mapping", x.send(1, 500, 0, 700), -2);
        Check.due("from outside it is no hairpin", x.send(3, 1, 0, 600), 2);
        x.setNumber(0, 2, 0);
        Check.due("from outside it needs no hairpins", x.send(3, 1, 0, 600), 2);
    }

    private static void hairpinDeeper() {
        HolePuncher x = Check.network("t000(t000(h)t000(h)h)h");
        x.send(2, 500, 6, 1);
        x.send(4, 500, 6, 1);
        Check.due("the way out", x.mapping(0, 1, 2), 501);
        Check.due("no hairpin at the outermost", x.send(2, 500, 0, 501), -4);
        x.setNumber(1, 2, 1);
        Check.due("inner ones do not count", x.send(2, 500, 0, 501), -4);
        x.setNumber(0, 2, 1);
        x.setNumber(1, 2, 0);
        Check.due("through two translators", x.send(2, 500, 0, 501), 4);
        Check.due("seen from the outermost", x.node(4, 4), 0);
        Check.due("the translator beside it", x.send(2, 500, 3, 500), 4);
        Check.due("seen from the inner one", x.node(4, 4), 1);
        Check.due("its own translator", x.send(2, 500, 1, 500), -4);
        Check.due("another one's own translator", x.send(5, 500, 1, 500), 2);
        Check.due("back to itself", x.send(2, 500, 0, 500), 2);
    }

    private static void inwards() {
        HolePuncher x = Check.network("ht010(t020(h))");
        x.send(3, 500, 0, 1);
        x.pass(40);
        Check.due("inwards", x.send(0, 1, 1, 500), 3);
        Check.due("no refresh", x.mapping(1, 0, 5), 20);
        x.setNumber(1, 3, 1);
        Check.due("filtered further in", x.send(0, 2, 1, 500), -3);
        Check.due("refreshed outside all the same", x.mapping(1, 0, 5), 60);
        Check.due("not refreshed inside", x.mapping(2, 0, 5), 20);
        x.setNumber(2, 3, 1);
        Check.due("filtered further in", x.send(0, 2, 1, 500), -3);
        Check.due("no refresh by a filtered packet", x.mapping(2, 0, 5), 20);
        Check.due("inwards", x.send(0, 1, 1, 500), 3);
        Check.due("refreshed inside", x.mapping(2, 0, 5), 60);
        x.setNumber(2, 1, 5);
        x.pass(6);
        Check.due("the inner mapping is dead", x.send(0, 1, 1, 500), -2);
    }

    private static void chains() {
        HolePuncher x = new HolePuncher();
        x.addTranslator(-1, 0, 2, 1);
        for (int i = 1; i < 8; i++) {
            x.addTranslator(i - 1, 0, 2, 0);
        }
        int inside = x.addHost(7);
        int outside = x.addHost(-1);
        Check.due("out through eight translators", x.send(inside, 700, outside, 80), outside);
        Check.due("seen from the outermost", x.node(outside, 4), 0);
        Check.due("at its port", x.node(outside, 5), 1000);
        for (int i = 0; i < 7; i++) {
            Check.due("inner node", x.mapping(i, 0, 0), i + 1);
            Check.due("inner port", x.mapping(i, 0, 1), 700);
        }
        Check.due("in through eight translators", x.reply(outside), inside);
        Check.due("the source is not translated inwards", x.node(inside, 4), outside);
        Check.due("at the port", x.node(inside, 6), 700);
        x.setNumber(5, 1, 1);
        x.pass(2);
        Check.due("one of them is dead", x.reply(outside), -2);
    }

    private static void reply() {
        HolePuncher x = Check.network("ht021(h)h");
        for (int host : new int[] {-1, 1, 4, Integer.MIN_VALUE, Integer.MAX_VALUE}) {
            Check.refuses("reply(" + host + ")", x, INDEX, () -> x.reply(host));
        }
        Check.refuses("reply(0) without a delivery", x, STATE, () -> x.reply(0));
        x.send(2, 77, 0, 80);
        Check.due("reply(0)", x.reply(0), 2);
        Check.due("at the port of the host", x.node(2, 6), 77);
        Check.due("from the port it was sent to", x.node(2, 5), 80);
        Check.due("reply(2)", x.reply(2), 0);
        Check.due("sent", x.count(4), 3);
        Check.due("delivered", x.count(5), 3);
        x.pass(61);
        Check.due("reply(0) when the mapping is dead", x.reply(0), -2);
        x.send(3, 5, 0, 6);
        Check.due("the latest delivery counts", x.reply(0), 3);
    }

    private static void keepAlive() {
        HolePuncher x = Check.network("t000(h)hh");
        for (int wrong : new int[] {0, -1, Integer.MIN_VALUE, Integer.MAX_VALUE}) {
            Check.refuses("interval " + wrong, x, ARGUMENT, () -> x.keepAlive(1, 1, 2, 1, wrong, 1));
            Check.refuses("many " + wrong, x, ARGUMENT, () -> x.keepAlive(1, 1, 2, 1, 1, wrong));
        }
        Check.refuses("interval 1001", x, ARGUMENT, () -> x.keepAlive(1, 1, 2, 1, 1001, 1));
        Check.refuses("many 21", x, ARGUMENT, () -> x.keepAlive(1, 1, 2, 1, 1, 21));
        Check.refuses("no host, interval 0", x, INDEX, () -> x.keepAlive(0, 1, 2, 1, 0, 0));
        Check.due("keepAlive", x.keepAlive(1, 500, 2, 1, 60, 20), 20);
        Check.due("the tick", x.count(2), 1200);
        Check.due("one mapping all the time", x.mapping(0, 0, 5), 0);
        Check.due("sent", x.count(4), 20);
        Check.due("too slow", x.keepAlive(1, 500, 2, 1, 61, 2), 2);
        Check.due("the mapping is dead", x.count(3), 0);
        Check.due("lost ones do not count", x.keepAlive(2, 500, 1, 1, 1, 3), 0);
        Check.due("lost for the reason 1", x.count(6), 3);
        HolePuncher y = Check.network("hh");
        Check.due("delivered to the host 0", y.keepAlive(1, 500, 0, 1, 1, 3), 3);
        x.send(1, 500, 2, 1);
        x.setNumber(0, 3, 1);
        Check.due("kept alive from outside", x.keepAlive(2, 1, 0, 500, 50, 3), 3);
        x.setNumber(0, 3, 0);
        Check.due("dies meanwhile", x.keepAlive(2, 1, 0, 500, 7, 5), 2);
        Check.passTo(x, 99900);
        Check.refuses("a tick too many", x, STATE, () -> x.keepAlive(1, 1, 2, 1, 101, 1));
        Check.refuses("ticks too many", x, STATE, () -> x.keepAlive(1, 1, 2, 1, 6, 20));
        Check.refuses("far too many", x, STATE, () -> x.keepAlive(1, 1, 2, 1, 1000, 20));
        Check.refuses("and a wrong port", x, ARGUMENT, () -> x.keepAlive(1, 0, 2, 1, 6, 20));
        Check.refuses("and a wrong host", x, INDEX, () -> x.keepAlive(0, 0, 2, 1, 6, 20));
        Check.due("just enough", x.keepAlive(1, 1, 2, 1, 5, 20), 20);
        Check.due("the tick", x.count(2), 100000);
    }

    private static void punchOpen() {
        HolePuncher x = Check.network("ht000(h)t000(h)");
        Check.due("punch", x.punch(2, 4, 0, false), 1);
        Check.due("the tick", x.count(2), 1);
        Check.due("sent", x.count(4), 4);
        Check.due("delivered", x.count(5), 4);
        Check.due("the server saw b last", x.node(0, 4), 3);
        Check.due("at its port 1", x.node(0, 6), 1);
        Check.due("a was reached at 500", x.node(2, 6), 500);
        HolePuncher y = Check.network("hhh");
        Check.due("punch in one net", y.punch(0, 1, 2, true), 1);
        Check.due("sent with prediction", y.count(4), 6);
        Check.due("the server's port is 2", y.node(2, 6), 2);
    }

    private static void punchFiltered() {
        HolePuncher x = Check.network("ht020(h)t020(h)");
        Check.due("punch", x.punch(2, 4, 0, false), 2);
        Check.due("the tick", x.count(2), 2);
        Check.due("sent", x.count(4), 6);
        Check.due("lost for the reason 3", x.count(8), 1);
        HolePuncher y = Check.network("ht020(hh)");
        Check.due("no hairpins", y.punch(2, 3, 0, false), -1);
        Check.due("the tick", y.count(2), 5);
        Check.due("lost for the reason 4", y.count(9), 10);
        y.setNumber(1, 2, 1);
        Check.due("with hairpins", y.punch(2, 3, 0, false), 1);
        // The mapping of b lives one tick, and so is dead or new in every round.
        HolePuncher z = Check.network("ht020(h)t221(h)");
        z.setNumber(3, 1, 1);
        Check.due("never at the right port", z.punch(2, 4, 0, false), -1);
        Check.due("the mapping of step 1 is dead", z.translator(3, 7), 1);
    }

    private static void punchPredicted() {
        HolePuncher x = Check.network("ht221(h)t020(h)");
        Check.due("without prediction", x.punch(2, 4, 0, false), -1);
        HolePuncher y = Check.network("ht221(h)t020(h)");
        Check.due("with prediction", y.punch(2, 4, 0, true), 2);
        Check.due("sent", y.count(4), 8);
        HolePuncher z = Check.network("ht020(h)t221(h)");
        z.setNumber(3, 0, 7);
        // Here a sends first, to the predicted port, before b's mapping is there: reason 2.
        Check.due("the other way round", z.punch(2, 4, 0, true), 2);
        Check.due("lost for the reason 2", z.count(7), 1);
        Check.due("the predicted port", z.mapping(3, 2, 2), 1014);
        HolePuncher both = Check.network("ht221(h)t221(h)");
        Check.due("both predicted", both.punch(2, 4, 0, true), 2);
        for (int translator : new int[] {1, 3}) {
            Check.due("first to the port 1 of the server", both.mapping(translator, 0, 4), 1);
            Check.due("then to its port 2", both.mapping(translator, 1, 4), 2);
            Check.due("and then to the other", both.mapping(translator, 2, 3), 4 - translator);
        }
    }

    /** A target beyond the ports is not used: the port that the server saw the second time is. */
    private static void punchPredictedOutOfRange() {
        boolean tooGreat = false;
        boolean tooSmall = false;
        for (int skipped = 0; skipped < 60 && !(tooGreat && tooSmall); skipped++) {
            HolePuncher x = Check.network("ht202(h)t000(h)");
            for (int i = 0; i < skipped; i++) {
                x.send(2, 1, 0, 1);
                x.pass(61);
            }
            x.punch(2, 4, 0, true);
            int e = x.mapping(1, 0, 2);
            int f = x.mapping(1, 1, 2);
            int port = 2 * f - e >= 1 && 2 * f - e <= 9999 ? 2 * f - e : f;
            tooGreat = tooGreat || 2 * f - e > 9999;
            tooSmall = tooSmall || 2 * f - e < 1;
            // b is behind a translator that keeps its port, and a's first packet reaches b, so that
            // b answers a's true port; from then on both have heard.
            Check.due("punch with " + e + " and " + f, x.punch(2, 4, 0, true), 1);
            HolePuncher y = Check.network("ht202(h)h");
            for (int i = 0; i < skipped; i++) {
                y.send(2, 1, 0, 1);
                y.pass(61);
            }
            y.save();
            // With b as the first one, its first packet goes to the predicted port.
            y.punch(3, 2, 0, true);
            int before = y.count(7);
            Check.due("the predicted port is met only if it is f", before, port == f ? 0 : 1);
        }
        Check.isTrue("a prediction above 9999 was met", tooGreat);
        Check.isTrue("a prediction below 1 was met", tooSmall);
    }

    /** The predicted port, 502, belongs to another endpoint: no packet there counts as heard. */
    private static void punchMeetsAnother() {
        HolePuncher x = Check.network("ht200(hh)h");
        for (int port = 11; port <= 13; port++) {
            x.send(3, 500, 0, port);
        }
        x.pass(40);
        x.send(3, 500, 0, 13);
        x.pass(21);
        Check.due("only 502 is taken", x.mapping(1, 0, 2), 502);
        Check.due("a third host at 500", x.punch(4, 2, 0, true), 2);
        Check.due("it got the packet", x.node(3, 4), 4);
        HolePuncher y = Check.network("ht200(h)h");
        y.send(2, 502, 0, 11);
        Check.due("the other one at another port", y.punch(3, 2, 0, true), 2);
        HolePuncher z = Check.network("ht200(h)h");
        z.send(2, 502, 0, 11);
        Check.due("the first of both", z.punch(2, 3, 0, true), 1);
    }

    private static void punchFailed() {
        HolePuncher x = Check.network("t000(h)hh");
        Check.due("a cannot reach the server", x.punch(2, 3, 1, true), 0);
        Check.due("only one packet was sent", x.count(4), 1);
        Check.due("the tick", x.count(2), 0);
        HolePuncher y = Check.network("t000(hh)h");
        Check.due("b cannot reach the server", y.punch(1, 3, 2, false), 0);
        Check.due("two packets were sent", y.count(4), 2);
        HolePuncher z = Check.network("t200(h)hh");
        for (int port = 10; port < 17; port++) {
            z.send(1, 500, 3, port);
        }
        z.save();
        Check.due("a's second packet is lost", z.punch(1, 2, 3, true), 0);
        Check.due("three more packets were sent", z.count(4), 10);
        Check.due("the last is lost for the reason 5", z.count(10), 1);
        z.restore();
        Check.due("b's second packet is lost", z.punch(2, 1, 3, true), 0);
        Check.due("four more packets were sent", z.count(4), 11);
        z.restore();
        Check.due("without prediction the rounds begin", z.punch(2, 1, 3, false), -1);
    }

    private static void refusesPunch(HolePuncher x, Class<?> kind, LongSupplier call) {
        Check.refuses("punch", x, kind, call);
    }

    private static void punchWrong() {
        HolePuncher x = Check.network("t000(h)hh");
        for (int wrong : new int[] {-1, 0, 4, Integer.MIN_VALUE, Integer.MAX_VALUE}) {
            refusesPunch(x, INDEX, () -> x.punch(wrong, 2, 3, false));
            refusesPunch(x, INDEX, () -> x.punch(1, wrong, 3, false));
            refusesPunch(x, INDEX, () -> x.punch(1, 2, wrong, true));
            refusesPunch(x, INDEX, () -> x.punch(wrong, wrong, 3, true));
        }
        refusesPunch(x, ARGUMENT, () -> x.punch(1, 1, 3, false));
        refusesPunch(x, ARGUMENT, () -> x.punch(1, 2, 1, false));
        refusesPunch(x, ARGUMENT, () -> x.punch(1, 2, 2, false));
        Check.passTo(x, 99990);
        Check.due("punch at 99990", x.punch(1, 2, 3, false), 1);
        refusesPunch(x, STATE, () -> x.punch(1, 2, 3, false));
        refusesPunch(x, ARGUMENT, () -> x.punch(1, 3, 3, false));
        refusesPunch(x, INDEX, () -> x.punch(0, 3, 3, false));
        Check.due("none of them was sent", x.count(4), 4);
    }

    private static void ifSent() {
        HolePuncher x = Check.network("ht202(h)t021(hh)");
        x.setNumber(3, 2, 1);
        long before = x.digest();
        Check.due("delivered", x.ifSent(2, 5, 0, 6), 0);
        Check.due("reason 1", x.ifSent(0, 5, 2, 6), -1);
        Check.due("reason 2", x.ifSent(0, 5, 1, 6), -2);
        Check.due("reason 4", x.ifSent(2, 5, 1, 6), -4);
        Check.due("a hairpin to the mapping that it makes", x.ifSent(4, 5, 3, 1000), 4);
        Check.due("nothing is changed", x.digest(), before);
        x.save();
        x.send(2, 5, 0, 6);
        int port = x.mapping(1, 0, 2);
        x.restore();
        x.ifSent(2, 5, 0, 6);
        x.send(2, 5, 0, 6);
        Check.due("nor the random number", x.mapping(1, 0, 2), port);
        x.send(4, 500, 0, 1);
        Check.due("reason 3", x.ifSent(0, 2, 3, 1000), -3);
        x.ifSent(4, 500, 0, 2);
        Check.due("nor the contacts", x.send(0, 2, 3, 1000), -3);
        x.setNumber(3, 3, 1);
        x.pass(10);
        x.ifSent(0, 1, 3, 1000);
        Check.due("nor the latest use", x.mapping(3, 0, 5), 50);
        for (int i = 0; i < 7; i++) {
            x.send(2, 5, 0, i + 7);
        }
        x.send(2, 5, 0, 6);
        Check.due("reason 5", x.ifSent(2, 5, 0, 20), -5);
        Check.due("the saved state stays", x.restore(), 0);
        Check.due("as it was", x.count(4), 0);
    }
}
