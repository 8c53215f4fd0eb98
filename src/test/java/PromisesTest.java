import java.io.IOException;
import java.util.function.LongSupplier;

/** The document from its first promise to its last line: every sentence is read and tried. */
public final class PromisesTest {
    private static final int NONE = HolePuncher.NONE;
    private static final int[] FAR = {Integer.MIN_VALUE, -10000, 10000, Integer.MAX_VALUE};
    private static final Class<?> INDEX = IndexOutOfBoundsException.class;
    private static final Class<?> ARGUMENT = IllegalArgumentException.class;
    private static final Class<?> STATE = IllegalStateException.class;
    private static Document text;

    public static void main(String[] args) throws IOException {
        text = new Document("Promise 1: A new object", "");
        newObject();
        begin();
        addHost();
        addTranslator();
        setNumber();
        pass();
        save();
        restore();
        append();
        clearBuffer();
        firstError();
        load();
        send();
        reply();
        keepAlive();
        punch();
        ifSent();
        count();
        node();
        translator();
        mapping();
        timeLeft();
        common();
        delivery();
        digest();
        notPromised();
        text.ends();
        Check.end();
    }

    private static void refuses(HolePuncher x, Class<?> kind, LongSupplier call) {
        Check.refuses("a refused call", x, kind, call);
    }

    private static void newObject() {
        text.reads("Promise 1: A new object HolePuncher()");
        text.says("Creates a network without nodes, and an empty buffer.");
        for (int what = 0; what <= 11; what++) {
            Check.due("of a new object", new HolePuncher().count(what), 0);
        }
        Check.due("the buffer", new HolePuncher().clearBuffer(), 0);
    }

    private static void begin() {
        text.reads("Promise 2: begin int begin() ---- networks");
        text.says("Begins a new network without nodes; the tick and all counts are 0, and no state is saved.");
        HolePuncher x = Check.network("hht201(h)");
        x.send(3, 5, 0, 1);
        x.send(0, 5, 3, 1);
        x.send(0, 5, 2, 1);
        x.send(0, 5, 2, 1000);
        x.send(3, 5, 2, 1000);
        x.pass(3);
        x.save();
        Check.type(x, "h)");
        int nodes = x.begin();
        for (int what = 0; what <= 11; what++) {
            Check.due("after it", x.count(what), 0);
        }
        refuses(x, STATE, x::restore);
        text.says("The buffer stays.");
        Check.due("its first error", x.firstError(), 1);
        Check.due("its length", x.clearBuffer(), 2);
        text.says("Returns how many nodes there were.");
        Check.due("there were 4", nodes, 4);
        Check.due("there were none", x.begin(), 0);
    }

    private static void addHost() {
        text.reads("Promise 3: addHost int addHost(int net) throws IndexOutOfBoundsException, "
                + "IllegalStateException");
        text.says("Adds a host.");
        HolePuncher x = Check.network("t000()h");
        int inside = x.addHost(0);
        Check.due("a host", x.node(inside, 0), 0);
        Check.due("hosts", x.count(1), 2);
        text.says("net: its net: NONE or the number of a translator");
        Check.due("behind the translator", x.node(inside, 1), 0);
        Check.due("in the public net", x.node(x.addHost(NONE), 1), NONE);
        text.says("Returns the number of the host.");
        Check.due("the next number", x.addHost(0), 4);
        text.says("Throws IndexOutOfBoundsException if net is neither NONE nor the number of a translator");
        for (int net : new int[] {-2, 1, 2, 4, 5, 9, 10}) {
            refuses(x, INDEX, () -> x.addHost(net));
        }
        for (int net : FAR) {
            refuses(x, INDEX, () -> x.addHost(net));
        }
        text.says("Throws IllegalStateException if there are 10 nodes");
        for (int i = 5; i < 10; i++) {
            Check.due("up to 10", x.addHost(0), i);
        }
        refuses(x, STATE, () -> x.addHost(0));
        refuses(x, STATE, () -> x.addHost(NONE));
        refuses(x, INDEX, () -> x.addHost(1));
    }

    private static void addTranslator() {
        text.reads("Promise 4: addTranslator int addTranslator(int net, int mapping, int filter, int assignment) "
                + "throws IndexOutOfBoundsException, IllegalArgumentException, IllegalStateException");
        text.says("Adds a translator.");
        HolePuncher x = Check.network("ht000()");
        int inside = x.addTranslator(1, 0, 1, 2);
        Check.due("a translator", x.node(inside, 0), 1);
        Check.due("hosts", x.count(1), 1);
        text.says("net: its outer net: NONE or the number of a translator mapping: its mapping rule, 0 to 2 "
                + "filter: its filter rule, 0 to 2 assignment: its assignment, 0 to 2");
        Check.due("its outer net", x.node(inside, 1), 1);
        for (int what = 0; what <= 2; what++) {
            Check.due("its rules", x.translator(inside, what), what);
        }
        text.says("Returns the number of the translator.");
        Check.due("the next number", x.addTranslator(inside, 2, 2, 2), 3);
        Check.due("the next number", x.addTranslator(NONE, 0, 0, 0), 4);
        text.says("Throws IndexOutOfBoundsException if net is neither NONE nor the number of a translator");
        for (int net : new int[] {-2, 0, 5, 10}) {
            refuses(x, INDEX, () -> x.addTranslator(net, 0, 0, 0));
            refuses(x, INDEX, () -> x.addTranslator(net, 3, 0, 0));
        }
        for (int net : FAR) {
            refuses(x, INDEX, () -> x.addTranslator(net, 0, 0, 0));
        }
        text.says("Throws IllegalArgumentException if a rule or the assignment is out of range");
        for (int rule : new int[] {Integer.MIN_VALUE, -1, 3, Integer.MAX_VALUE}) {
            refuses(x, ARGUMENT, () -> x.addTranslator(NONE, rule, 0, 0));
            refuses(x, ARGUMENT, () -> x.addTranslator(NONE, 0, rule, 0));
            refuses(x, ARGUMENT, () -> x.addTranslator(NONE, 0, 0, rule));
        }
        text.says("Throws IllegalStateException if there are 10 nodes");
        for (int i = 5; i < 10; i++) {
            Check.due("up to 10", x.addTranslator(i - 1, 0, 0, 0), i);
        }
        refuses(x, STATE, () -> x.addTranslator(9, 0, 0, 0));
        refuses(x, ARGUMENT, () -> x.addTranslator(9, 0, 0, -1));
        refuses(x, INDEX, () -> x.addTranslator(10, 0, 0, -1));
    }

    private static void setNumber() {
        text.reads("Promise 5: setNumber int setNumber(int translator, int what, int value) throws "
                + "IndexOutOfBoundsException, IllegalArgumentException");
        text.reads("Sets a number of a translator.");
        text.reads("translator: number of the translator");
        text.says("what: 0: the step; 1: the lifetime; 2: 1 to allow hairpins, 0 to allow none; 3: 1 to refresh "
                + "inwards, 0 not to do so value: the new value");
        HolePuncher x = Check.network("ht000()t000()");
        int[] first = {1, 60, 0, 0};
        int[] next = {7, 444, 1, 1};
        int[] previous = new int[4];
        for (int what = 0; what <= 3; what++) {
            previous[what] = x.setNumber(1, what, next[what]);
            for (int i = 0; i <= 3; i++) {
                Check.due("each by itself", x.translator(1, 3 + i), i <= what ? next[i] : first[i]);
                Check.due("not of another one", x.translator(2, 3 + i), first[i]);
            }
        }
        text.says("Returns the previous value.");
        for (int what = 0; what <= 3; what++) {
            Check.due("the first one", previous[what], first[what]);
            Check.due("the next one", x.setNumber(1, what, first[what]), next[what]);
        }
        text.says("Throws IndexOutOfBoundsException if there is no such translator");
        for (int number : new int[] {-1, 0, 3, 10}) {
            refuses(x, INDEX, () -> x.setNumber(number, 0, 1));
            refuses(x, INDEX, () -> x.setNumber(number, 4, 1));
        }
        for (int number : FAR) {
            refuses(x, INDEX, () -> x.setNumber(number, 0, 1));
        }
        text.says("Throws IllegalArgumentException if what is not 0 to 3, or value is out of range");
        for (int what : new int[] {Integer.MIN_VALUE, -1, 4, Integer.MAX_VALUE}) {
            refuses(x, ARGUMENT, () -> x.setNumber(1, what, 1));
        }
        int[][] wrong = {{0, 10}, {0, 1001}, {-1, 2}, {-1, 2}};
        for (int i = 0; i <= 3; i++) {
            int what = i;
            for (int value : wrong[i]) {
                refuses(x, ARGUMENT, () -> x.setNumber(1, what, value));
            }
            for (int value : FAR) {
                refuses(x, ARGUMENT, () -> x.setNumber(1, what, value));
            }
        }
    }

    private static void pass() {
        text.reads("Promise 6: pass int pass(int ticks) throws IllegalArgumentException, IllegalStateException");
        text.says("Lets ticks pass.");
        HolePuncher x = Check.network("ht201(h)t000(h)");
        x.pass(7);
        Check.due("the tick", x.count(2), 7);
        text.says("ticks: 1 to 1000");
        Check.due("the least", x.pass(1), 0);
        Check.due("the most", x.pass(1000), 0);
        Check.due("the tick", x.count(2), 1008);
        text.says("Returns how many mappings died.");
        x.send(2, 5, 0, 1);
        x.send(2, 5, 0, 2);
        x.send(4, 5, 0, 2);
        x.pass(10);
        x.send(2, 5, 0, 2);
        Check.due("none", x.pass(50), 0);
        Check.due("two, of both translators", x.pass(1), 2);
        Check.due("the third one", x.pass(1000), 1);
        text.says("Throws IllegalArgumentException if ticks is not 1 to 1000");
        for (int ticks : new int[] {Integer.MIN_VALUE, -1, 0, 1001, Integer.MAX_VALUE}) {
            refuses(x, ARGUMENT, () -> x.pass(ticks));
        }
        text.says("Throws IllegalStateException if the tick would be greater than 100000");
        Check.passTo(x, 99500);
        refuses(x, STATE, () -> x.pass(501));
        refuses(x, STATE, () -> x.pass(1000));
        refuses(x, ARGUMENT, () -> x.pass(1001));
        Check.due("not greater", x.pass(500), 0);
        Check.due("the tick", x.count(2), 100000);
        refuses(x, STATE, () -> x.pass(1));
    }

    private static void save() {
        text.reads("Promise 7: save int save()");
        text.says("Saves the state (all but the buffer), in place of the one that was saved.");
        HolePuncher x = Check.network("ht202(h)");
        Check.due("at first", x.save(), 0);
        x.send(2, 5, 0, 1);
        x.pass(8);
        Check.type(x, "ab");
        int tick = x.save();
        long saved = x.digest();
        x.send(2, 5, 0, 2);
        x.addHost(NONE);
        x.setNumber(1, 1, 1);
        x.pass(2);
        x.restore();
        Check.due("the later one, with the same buffer", x.digest(), saved);
        x.send(2, 5, 0, 2);
        Check.due("with the random number", x.node(0, 5), 5817);
        x.append('c');
        x.restore();
        Check.due("without the buffer", x.clearBuffer(), 3);
        text.says("Returns the tick.");
        Check.due("the tick", tick, 8);
    }

    private static void restore() {
        text.reads("Promise 8: restore int restore() throws IllegalStateException");
        text.says("Restores the saved state, which stays saved.");
        HolePuncher x = Check.network("ht001(h)");
        x.pass(5);
        x.send(2, 5, 0, 1);
        x.save();
        long saved = x.digest();
        int tick = NONE;
        for (int i = 0; i < 3; i++) {
            x.send(2, 6 + i, 0, 1);
            x.pass(70);
            Check.isTrue("it is another state", x.digest() != saved);
            tick = x.restore();
            Check.due("restored", x.digest(), saved);
            Check.due("stays saved", x.count(11), 1);
        }
        text.says("Returns the tick.");
        Check.due("the tick", tick, 5);
        text.says("Throws IllegalStateException if no state is saved");
        refuses(new HolePuncher(), STATE, new HolePuncher()::restore);
        x.begin();
        refuses(x, STATE, x::restore);
    }

    private static void append() {
        text.reads("Promise 9: append int append(int code) throws IllegalArgumentException, "
                + "IllegalStateException ---- texts");
        text.says("Appends a character to the buffer.");
        HolePuncher x = new HolePuncher();
        x.append('h');
        x.append('?');
        Check.due("behind the others", x.firstError(), 1);
        text.says("code: the character code, 33 to 126");
        Check.due("the least", x.append(33), 3);
        Check.due("the greatest", x.append(126), 4);
        text.says("Returns the new length of the buffer.");
        Check.due("the length", x.append('h'), 5);
        text.says("Throws IllegalArgumentException if code is not 33 to 126");
        for (int code : new int[] {Integer.MIN_VALUE, -1, 0, 10, 32, 127, 256 + 'h', Integer.MAX_VALUE}) {
            refuses(x, ARGUMENT, () -> x.append(code));
        }
        text.says("Throws IllegalStateException if the buffer has 40 characters");
        for (int length = 6; length <= 40; length++) {
            Check.due("the length", x.append('h'), length);
        }
        refuses(x, STATE, () -> x.append('h'));
        refuses(x, ARGUMENT, () -> x.append(32));
    }

    private static void clearBuffer() {
        text.reads("Promise 10: clearBuffer int clearBuffer()");
        text.says("Clears the buffer.");
        HolePuncher x = new HolePuncher();
        Check.type(x, "?h)");
        int before = x.clearBuffer();
        Check.due("it is empty", x.append('h'), 1);
        Check.due("the old characters are gone", x.firstError(), 1);
        text.says("Returns the length that it had.");
        Check.due("it had 3", before, 3);
        Check.due("it has 1", x.clearBuffer(), 1);
        Check.due("it is empty", x.clearBuffer(), 0);
    }

    private static void firstError() {
        text.reads("Promise 11: firstError int firstError()");
        text.reads("Finds the first syntax error of the buffer.");
        text.says("Returns the index of the first character that is a syntax error; the length of the buffer if "
                + "there is none.");
        HolePuncher x = new HolePuncher();
        Check.due("an empty buffer", x.firstError(), 0);
        String whole = "t012(hh)t120(t201())";
        for (int i = 0; i < whole.length(); i++) {
            x.append(whole.charAt(i));
            Check.due("none", x.firstError(), i + 1);
        }
        x.append(')');
        x.append('h');
        x.append('?');
        Check.due("the first one of two", x.firstError(), whole.length());
    }

    private static void load() {
        text.reads("Promise 12: load int load() throws IllegalArgumentException");
        text.says("Begins the network in the buffer (as by begin), and clears the buffer.");
        HolePuncher x = Check.network("hh");
        x.send(0, 5, 1, 6);
        x.pass(3);
        x.save();
        Check.type(x, "ht021(h)");
        int nodes = x.load();
        int[] counts = {3, 2, 0, 0, 0, 0, 0, 0, 0, 0, 0, 0};
        for (int what = 0; what <= 11; what++) {
            Check.due("after it", x.count(what), counts[what]);
        }
        Check.due("no delivery", x.node(0, 4), NONE);
        Check.due("the filter rule", x.translator(1, 1), 2);
        Check.due("the buffer", x.clearBuffer(), 0);
        text.says("Returns the number of nodes.");
        Check.due("the nodes", nodes, 3);
        text.says("Throws IllegalArgumentException if the buffer is not a complete network");
        String[] texts = {"", "t", "t01", "t012", "t012(", "t012(h", "h)", "hx", "xh", "hhhhhhhhhhh"};
        for (String wrong : texts) {
            Check.type(x, wrong);
            refuses(x, ARGUMENT, x::load);
            Check.due("the buffer stays", x.clearBuffer(), wrong.length());
        }
    }

    private static void send() {
        text.reads("Promise 13: send int send(int host, int port, int node, int remotePort) throws "
                + "IndexOutOfBoundsException, IllegalArgumentException ---- packets");
        text.says("Sends a packet.");
        HolePuncher x = Check.network("ht020(h)");
        int host = x.send(2, 5, 0, 6);
        Check.due("sent", x.count(4), 1);
        text.says("host: the host that sends it port: its port node: the node of the remote endpoint remotePort: "
                + "the port of the remote endpoint");
        Check.due("the source's node", x.mapping(1, 0, 0), 2);
        Check.due("its port", x.mapping(1, 0, 1), 5);
        Check.due("the remote port", x.node(0, 6), 6);
        text.says("Returns the host to which it was delivered; if it was lost, 0 minus the reason.");
        Check.due("the host 0", host, 0);
        Check.due("the host 2", x.send(0, 6, 1, 5), 2);
        Check.due("the reason 1", x.send(0, 6, 2, 5), -1);
        Check.due("the reason 2", x.send(0, 6, 1, 6), -2);
        Check.due("the reason 3", x.send(0, 7, 1, 5), -3);
        Check.due("the reason 4", x.send(2, 5, 1, 5), -4);
        x.send(2, 9999, 0, 6);
        x.addHost(1);
        Check.due("the reason 5", x.send(3, 9999, 0, 6), -5);
        packetRefusals(x, (host1, port, node, remotePort) -> x.send(host1, port, node, remotePort));
    }

    /** A call with the four numbers of a packet. */
    private interface PacketCall {
        long with(int host, int port, int node, int remotePort);
    }

    /** 1 is a translator of the network, 0 a host, and there are 4 nodes. */
    private static void packetRefusals(HolePuncher x, PacketCall call) {
        text.says("Throws IndexOutOfBoundsException if host is not the number of a host, or there is no such node");
        wrongNodes(x, call);
        text.says("Throws IllegalArgumentException if one of the ports is not 1 to 9999");
        wrongPorts(x, call);
    }

    private static void wrongNodes(HolePuncher x, PacketCall call) {
        for (int host : new int[] {Integer.MIN_VALUE, -1, 1, 4, 10, Integer.MAX_VALUE}) {
            refuses(x, INDEX, () -> call.with(host, 5, 0, 6));
            refuses(x, INDEX, () -> call.with(host, 0, 0, 6));
        }
        for (int node : new int[] {Integer.MIN_VALUE, -1, 4, 10, Integer.MAX_VALUE}) {
            refuses(x, INDEX, () -> call.with(0, 5, node, 6));
            refuses(x, INDEX, () -> call.with(0, 5, node, 10000));
        }
    }

    private static void wrongPorts(HolePuncher x, PacketCall call) {
        for (int port : new int[] {Integer.MIN_VALUE, -1, 0, 10000, Integer.MAX_VALUE}) {
            refuses(x, ARGUMENT, () -> call.with(0, port, 0, 6));
            refuses(x, ARGUMENT, () -> call.with(0, 5, 0, port));
        }
    }

    private static void reply() {
        text.reads("Promise 14: reply int reply(int host) throws IndexOutOfBoundsException, IllegalStateException");
        text.says("Lets a host answer its latest delivery: it sends from the port at which that was delivered to "
                + "its source endpoint.");
        HolePuncher x = Check.network("ht021(h)h");
        x.send(3, 8, 0, 9);
        x.send(2, 5, 0, 6);
        int answered = x.reply(0);
        Check.due("the source is the host", x.node(2, 4), 0);
        Check.due("from that port", x.node(2, 5), 6);
        Check.due("at the inner port", x.node(2, 6), 5);
        text.says("host: the host Returns as send.");
        Check.due("the host that gets it", answered, 2);
        x.pass(61);
        Check.due("the mapping has died", x.reply(0), -2);
        text.says("Throws IndexOutOfBoundsException if host is not the number of a host");
        for (int host : new int[] {Integer.MIN_VALUE, -1, 1, 4, 10, Integer.MAX_VALUE}) {
            refuses(x, INDEX, () -> x.reply(host));
        }
        text.says("Throws IllegalStateException if the host has no delivery");
        refuses(x, STATE, () -> x.reply(3));
    }

    private static void keepAlive() {
        text.reads("Promise 15: keepAlive int keepAlive(int host, int port, int node, int remotePort, int "
                + "interval, int many) throws IndexOutOfBoundsException, IllegalArgumentException, "
                + "IllegalStateException");
        text.says("Sends several packets from a host to the same endpoint; after each of them some ticks pass.");
        HolePuncher x = Check.network("ht001(h)h");
        x.setNumber(1, 1, 5);
        int all = x.keepAlive(2, 5, 0, 6, 5, 4);
        Check.due("packets", x.count(4), 4);
        Check.due("the tick", x.count(2), 20);
        Check.due("the mapping lived on", x.translator(1, 8), 1001);
        Check.due("ticks pass also after the last one", x.mapping(1, 0, 5), 0);
        text.says("host: the host that sends them port: its port node: the node of the remote endpoint "
                + "remotePort: the port of the remote endpoint interval: how many ticks pass after each packet, "
                + "1 to 1000 many: how many packets, 1 to 20");
        Check.due("the source's node", x.mapping(1, 0, 0), 2);
        Check.due("its port", x.mapping(1, 0, 1), 5);
        Check.due("the remote port", x.node(0, 6), 6);
        Check.due("the most packets, and a mapping for each", x.keepAlive(2, 5, 0, 6, 6, 20), 20);
        Check.due("the first one used the old mapping", x.translator(1, 8), 1020);
        Check.due("the longest interval", x.keepAlive(2, 5, 0, 6, 1000, 1), 1);
        Check.due("the shortest one", x.keepAlive(2, 5, 0, 6, 1, 1), 1);
        Check.due("the tick", x.count(2), 20 + 120 + 1000 + 1);
        text.says("Returns how many packets were delivered.");
        Check.due("all", all, 4);
        Check.due("none", x.keepAlive(0, 5, 2, 6, 1, 3), 0);
        x.send(2, 7, 0, 6);
        Check.due("until the mapping dies", x.keepAlive(0, 6, 1, x.node(0, 5), 2, 9), 3);
        text.says("Throws IndexOutOfBoundsException if host is not the number of a host, or there is no such node");
        wrongNodes(x, (host, port, node, remotePort) -> x.keepAlive(host, port, node, remotePort, 1, 1));
        wrongNodes(x, (host, port, node, remotePort) -> x.keepAlive(host, port, node, remotePort, 0, 21));
        text.says("Throws IllegalArgumentException if another argument is out of range");
        HolePuncher y = Check.network("hh");
        wrongPorts(y, (host, port, node, remotePort) -> y.keepAlive(host, port, node, remotePort, 1, 1));
        for (int interval : new int[] {Integer.MIN_VALUE, -1, 0, 1001, Integer.MAX_VALUE}) {
            refuses(y, ARGUMENT, () -> y.keepAlive(0, 5, 1, 6, interval, 1));
        }
        for (int many : new int[] {Integer.MIN_VALUE, -1, 0, 21, Integer.MAX_VALUE}) {
            refuses(y, ARGUMENT, () -> y.keepAlive(0, 5, 1, 6, 1, many));
        }
        text.says("Throws IllegalStateException if the tick would be greater than 100000");
        Check.passTo(y, 99900);
        refuses(y, STATE, () -> y.keepAlive(0, 5, 1, 6, 101, 1));
        refuses(y, STATE, () -> y.keepAlive(0, 5, 1, 6, 6, 17));
        refuses(y, STATE, () -> y.keepAlive(0, 5, 1, 6, 1000, 20));
        refuses(y, ARGUMENT, () -> y.keepAlive(0, 5, 1, 6, 1001, 20));
        refuses(y, INDEX, () -> y.keepAlive(0, 5, 2, 6, 1001, 20));
        Check.due("not greater", y.keepAlive(0, 5, 1, 6, 5, 20), 20);
        Check.due("the tick", y.count(2), 100000);
    }

    private static void punch() {
        text.reads("Promise 16: punch int punch(int a, int b, int server, boolean predict) throws "
                + "IndexOutOfBoundsException, IllegalArgumentException, IllegalStateException");
        text.says("Punches. The port of both hosts is 500; there are at most 5 rounds.");
        HolePuncher x = Check.network("ht220(h)t220(h)");
        int without = x.punch(2, 4, 0, false);
        Check.due("the port of a", x.mapping(1, 0, 1), 500);
        Check.due("the port of b", x.mapping(3, 0, 1), 500);
        Check.due("5 rounds", x.count(2), 5);
        text.says("a: a host b: another host server: a third host predict: true to punch with prediction");
        Check.due("packets without", x.count(4), 12);
        x.begin();
        Check.type(x, "hht221(h)t020(h)");
        x.load();
        int with = x.punch(3, 5, 1, true);
        Check.due("packets with prediction", x.count(4), 4 + 4);
        Check.due("the server", x.node(1, 6), 2);
        text.says("Returns the number of rounds if it succeeded; 0 if it failed before the rounds; NONE if it "
                + "did not succeed in 5 rounds.");
        Check.due("two rounds", with, 2);
        Check.due("not in 5 rounds", without, NONE);
        Check.due("before the rounds", x.punch(0, 1, 3, false), 0);
        Check.due("one round", x.punch(5, 0, 1, false), 1);
        punchRefusals(x);
    }

    private static void punchRefusals(HolePuncher x) {
        text.says("Throws IndexOutOfBoundsException if one of the three is not the number of a host");
        for (int number : new int[] {Integer.MIN_VALUE, -1, 2, 6, 10, Integer.MAX_VALUE}) {
            refuses(x, INDEX, () -> x.punch(number, 0, 1, false));
            refuses(x, INDEX, () -> x.punch(0, number, 1, true));
            refuses(x, INDEX, () -> x.punch(0, 1, number, false));
            refuses(x, INDEX, () -> x.punch(0, 0, number, false));
        }
        text.says("Throws IllegalArgumentException if two of them are the same");
        refuses(x, ARGUMENT, () -> x.punch(0, 0, 1, false));
        refuses(x, ARGUMENT, () -> x.punch(0, 1, 0, false));
        refuses(x, ARGUMENT, () -> x.punch(1, 0, 0, true));
        refuses(x, ARGUMENT, () -> x.punch(0, 0, 0, true));
        text.says("Throws IllegalStateException if the tick is greater than 99990");
        Check.passTo(x, 99990);
        x.save();
        Check.due("not greater", x.punch(0, 5, 1, false), 2);
        refuses(x, STATE, () -> x.punch(0, 5, 1, false));
        refuses(x, ARGUMENT, () -> x.punch(0, 5, 0, false));
        refuses(x, INDEX, () -> x.punch(2, 5, 5, false));
        x.restore();
        Check.due("before the rounds", x.punch(0, 5, 3, false), 0);
        Check.due("the tick", x.count(2), 99990);
    }

    private static void ifSent() {
        text.reads("Promise 17: ifSent int ifSent(int host, int port, int node, int remotePort) throws "
                + "IndexOutOfBoundsException, IllegalArgumentException");
        text.says("Returns what send would return. Nothing is changed.");
        HolePuncher x = Check.network("ht022(h)");
        long before = x.digest();
        Check.due("delivered", x.ifSent(2, 5, 0, 6), 0);
        Check.due("lost", x.ifSent(2, 5, 1, 6), -4);
        Check.due("the digest", x.digest(), before);
        Check.due("the same with send", x.send(2, 5, 0, 6), 0);
        Check.due("the first random port", x.node(0, 5), 1908);
        Check.due("a new contact", x.ifSent(2, 5, 0, 7), 0);
        Check.due("it is none", x.ifSent(0, 7, 1, 1908), -3);
        text.says("host: the host that would send a packet port: its port node: the node of the remote endpoint "
                + "remotePort: the port of the remote endpoint Returns as send.");
        Check.due("in again", x.ifSent(0, 6, 1, 1908), 2);
        Check.due("no mapping", x.ifSent(0, 6, 1, 1909), -2);
        Check.due("not reached", x.ifSent(0, 6, 2, 1908), -1);
        x.addHost(1);
        text.says("Throws IndexOutOfBoundsException as send");
        wrongNodes(x, (host, port, node, remotePort) -> x.ifSent(host, port, node, remotePort));
        text.says("Throws IllegalArgumentException as send");
        wrongPorts(x, (host, port, node, remotePort) -> x.ifSent(host, port, node, remotePort));
    }

    private static void count() {
        text.reads("Promise 18: count int count(int what) throws IllegalArgumentException ---- questions");
        text.reads("Returns a number.");
        text.says("what: 0: nodes; 1: hosts; 2: the tick; 3: mappings of all translators; 4: packets that were "
                + "sent; 5: those that were delivered; 6 to 10: those that were lost for the reason 1 to 5; 11: "
                + "1 if a state is saved, else 0 Returns the number.");
        HolePuncher x = Check.network("ht020(hh)t020(h)");
        x.pass(9);
        times(6, () -> x.send(2, 9999, 0, 6));
        times(5, () -> x.send(0, 6, 2, 1));
        times(4, () -> x.send(0, 6, 1, 1));
        times(3, () -> x.send(0, 7, 1, 9999));
        times(2, () -> x.send(2, 9999, 1, 1));
        times(1, () -> x.send(3, 9999, 0, 6));
        x.send(5, 9, 0, 6);
        int[] counts = {6, 4, 9, 2, 22, 7, 5, 4, 3, 2, 1, 0};
        for (int what = 0; what <= 11; what++) {
            Check.due("count " + what, x.count(what), counts[what]);
        }
        x.save();
        Check.due("saved", x.count(11), 1);
        text.says("Throws IllegalArgumentException if what is not 0 to 11");
        for (int what : new int[] {Integer.MIN_VALUE, -1, 12, Integer.MAX_VALUE}) {
            refuses(x, ARGUMENT, () -> x.count(what));
        }
    }

    private static void times(int many, LongSupplier call) {
        for (int i = 0; i < many; i++) {
            call.getAsLong();
        }
    }

    private static void node() {
        text.reads("Promise 19: node int node(int node, int what) throws IndexOutOfBoundsException, "
                + "IllegalArgumentException");
        text.reads("Returns a property of a node. node: number of the node");
        text.says("what: 0: 1 if it is a translator, 0 if it is a host; 1: the net in which it is; 2: through "
                + "how many translators its packets go out to the public net; 3: for a translator the number of "
                + "hosts behind it (in its inner net, and behind the translators in it, and so on), for a host "
                + "0; 4: for a host the node of the source endpoint of its latest delivery, 5: the port of it, "
                + "6: the port at which it was delivered (for 4 to 6 NONE if it has none, or is a translator) "
                + "Returns the property.");
        HolePuncher x = Check.network("t000(ht001(hht000()))h");
        x.send(2 + 1, 5, 6, 7);
        x.send(6, 7, 0, 5);
        x.send(1, 8, 2, 1000);
        int[][] properties = {
            {1, NONE, 0, 3, NONE, NONE, NONE},
            {0, 0, 1, 0, NONE, NONE, NONE},
            {1, 0, 1, 2, NONE, NONE, NONE},
            {0, 2, 2, 0, 1, 8, 5},
            {0, 2, 2, 0, NONE, NONE, NONE},
            {1, 2, 2, 0, NONE, NONE, NONE},
            {0, NONE, 0, 0, 0, 1000, 7},
        };
        for (int i = 0; i < properties.length; i++) {
            for (int what = 0; what <= 6; what++) {
                Check.due("node(" + i + ", " + what + ")", x.node(i, what), properties[i][what]);
            }
        }
        text.says("Throws IndexOutOfBoundsException if the node does not exist");
        for (int number : new int[] {Integer.MIN_VALUE, -1, 7, 10, Integer.MAX_VALUE}) {
            refuses(x, INDEX, () -> x.node(number, 0));
            refuses(x, INDEX, () -> x.node(number, 7));
        }
        text.says("Throws IllegalArgumentException if what is not 0 to 6");
        for (int what : new int[] {Integer.MIN_VALUE, -1, 7, Integer.MAX_VALUE}) {
            refuses(x, ARGUMENT, () -> x.node(0, what));
            refuses(x, ARGUMENT, () -> x.node(6, what));
        }
    }

    private static void translator() {
        text.reads("Promise 20: translator int translator(int translator, int what) throws "
                + "IndexOutOfBoundsException, IllegalArgumentException");
        text.reads("Returns a property of a translator. translator: number of the translator");
        text.says("what: 0: its mapping rule; 1: its filter rule; 2: its assignment; 3: its step; 4: its "
                + "lifetime; 5: 1 if it allows hairpins, else 0; 6: 1 if it refreshes inwards, else 0; 7: the "
                + "number of its mappings; 8: its counter Returns the property.");
        HolePuncher x = Check.network("ht201(h)t120()");
        x.setNumber(1, 0, 4);
        x.setNumber(1, 1, 33);
        x.setNumber(1, 2, 1);
        x.setNumber(3, 3, 1);
        times(2, () -> x.send(2, 5, 0, 6));
        x.send(2, 5, 0, 7);
        int[][] properties = {{2, 0, 1, 4, 33, 1, 0, 2, 1008}, {1, 2, 0, 1, 60, 0, 1, 0, 1000}};
        for (int what = 0; what <= 8; what++) {
            Check.due("translator(1, " + what + ")", x.translator(1, what), properties[0][what]);
            Check.due("translator(3, " + what + ")", x.translator(3, what), properties[1][what]);
        }
        text.says("Throws IndexOutOfBoundsException if there is no such translator");
        for (int number : new int[] {Integer.MIN_VALUE, -1, 0, 2, 4, 10, Integer.MAX_VALUE}) {
            refuses(x, INDEX, () -> x.translator(number, 0));
            refuses(x, INDEX, () -> x.translator(number, 9));
        }
        text.says("Throws IllegalArgumentException if what is not 0 to 8");
        for (int what : new int[] {Integer.MIN_VALUE, -1, 9, Integer.MAX_VALUE}) {
            refuses(x, ARGUMENT, () -> x.translator(1, what));
        }
    }

    private static void mapping() {
        text.reads("Promise 21: mapping int mapping(int translator, int mapping, int what) throws "
                + "IndexOutOfBoundsException, IllegalArgumentException");
        text.reads("Returns a property of a mapping. translator: number of the translator mapping: number of the "
                + "mapping");
        text.says("what: 0: the node of its inner endpoint; 1: the port of it; 2: its outer port; 3: the node of "
                + "its key, NONE if it has none; 4: the port of its key, NONE if it has none; 5: how many ticks "
                + "it lives at most if it is not used; 6: the number of its contacts Returns the property.");
        int[][] keys = {{NONE, NONE}, {0, NONE}, {0, 6}};
        HolePuncher x = new HolePuncher();
        for (int rule = 0; rule <= 2; rule++) {
            x.begin();
            x.addHost(NONE);
            x.addTranslator(NONE, rule, 0, 1);
            x.addHost(1);
            x.send(2, 4, 0, 6);
            x.pass(20);
            x.send(2, 5, 0, 6);
            x.pass(20);
            x.send(2, 5, 0, 6);
            x.pass(2);
            int[][] properties = {
                {2, 4, 1000, keys[rule][0], keys[rule][1], 18, 1},
                {2, 5, 1001, keys[rule][0], keys[rule][1], 58, 1},
            };
            for (int what = 0; what <= 6; what++) {
                Check.due("mapping(1, 0, " + what + ")", x.mapping(1, 0, what), properties[0][what]);
                Check.due("mapping(1, 1, " + what + ")", x.mapping(1, 1, what), properties[1][what]);
            }
        }
        x.save();
        Check.due("it lives 18 ticks", x.pass(18), 0);
        Check.due("0 more", x.mapping(1, 0, 5), 0);
        Check.due("and is dead", x.pass(1), 1);
        x.restore();
        text.says("Throws IndexOutOfBoundsException if there is no such translator or mapping");
        for (int number : new int[] {Integer.MIN_VALUE, -1, 2, 8, Integer.MAX_VALUE}) {
            refuses(x, INDEX, () -> x.mapping(number, 0, 0));
            refuses(x, INDEX, () -> x.mapping(1, number, 0));
            refuses(x, INDEX, () -> x.mapping(1, number, 7));
        }
        refuses(x, INDEX, () -> x.mapping(0, 0, 0));
        text.says("Throws IllegalArgumentException if what is not 0 to 6");
        for (int what : new int[] {Integer.MIN_VALUE, -1, 7, Integer.MAX_VALUE}) {
            refuses(x, ARGUMENT, () -> x.mapping(1, 1, what));
        }
    }

    private static void timeLeft() {
        text.reads("Promise 22: timeLeft int timeLeft(int host, int port, int node, int remotePort) throws "
                + "IndexOutOfBoundsException, IllegalArgumentException");
        text.reads("Returns how long the mappings live that a packet would use for going out. host: the host "
                + "that would send a packet port: its port node: the node of the remote endpoint remotePort: the "
                + "port of the remote endpoint");
        text.says("Returns the least number of ticks that they live if they are not used; NONE if the packet "
                + "would not go out through any translator, or one of the mappings is not there.");
        HolePuncher x = Check.network("ht200(t000(hh)h)");
        x.setNumber(1, 1, 50);
        Check.due("none is there", x.timeLeft(3, 5, 0, 6), NONE);
        x.send(3, 5, 0, 6);
        x.pass(10);
        Check.due("40 and 50", x.timeLeft(3, 5, 0, 6), 40);
        x.send(3, 5, 5, 6);
        Check.due("the inner one alone", x.timeLeft(3, 5, 5, 6), 60);
        Check.due("40 and 60", x.timeLeft(3, 5, 0, 6), 40);
        Check.due("the outer one has another key", x.timeLeft(3, 5, 0, 7), NONE);
        Check.due("no one of another port", x.timeLeft(3, 6, 0, 6), NONE);
        Check.due("no one of another host", x.timeLeft(4, 5, 0, 6), NONE);
        Check.due("to a host beside it", x.timeLeft(3, 5, 4, 6), NONE);
        Check.due("in the public net", x.timeLeft(0, 5, 1, 6), NONE);
        x.send(5, 5, 3, 6);
        Check.due("a packet that goes out, but does not arrive", x.timeLeft(5, 5, 3, 6), 50);
        x.setNumber(2, 1, 3);
        Check.due("40 and 3", x.timeLeft(3, 5, 0, 6), 3);
        x.pass(4);
        Check.due("the inner one has died", x.timeLeft(3, 5, 0, 6), NONE);
        HolePuncher y = Check.network("ht000(h)h");
        packetRefusals(y, (host, port, node, remotePort) -> y.timeLeft(host, port, node, remotePort));
    }

    private static void common() {
        text.reads("Promise 23: common int common(int one, int other) throws IndexOutOfBoundsException");
        text.reads("Finds the net that two nodes have in common:");
        text.says("the innermost net in which both are, or in whose inner nets (of its translators, and so on) "
                + "they are. one: number of a node other: number of a node Returns the number of the translator "
                + "whose inner net it is; NONE for the public net.");
        HolePuncher x = Check.network("ht000(ht000(h)t000(hh))");
        int[][] nets = {
            {NONE, NONE, NONE, NONE, NONE, NONE, NONE, NONE},
            {NONE, NONE, NONE, NONE, NONE, NONE, NONE, NONE},
            {NONE, NONE, 1, 1, 1, 1, 1, 1},
            {NONE, NONE, 1, 1, 1, 1, 1, 1},
            {NONE, NONE, 1, 1, 3, 1, 1, 1},
            {NONE, NONE, 1, 1, 1, 1, 1, 1},
            {NONE, NONE, 1, 1, 1, 1, 5, 5},
            {NONE, NONE, 1, 1, 1, 1, 5, 5},
        };
        for (int one = 0; one < 8; one++) {
            for (int other = 0; other < 8; other++) {
                Check.due("common(" + one + ", " + other + ")", x.common(one, other), nets[one][other]);
            }
        }
        text.says("Throws IndexOutOfBoundsException if one of the nodes does not exist");
        for (int number : new int[] {Integer.MIN_VALUE, -1, 8, 10, Integer.MAX_VALUE}) {
            refuses(x, INDEX, () -> x.common(number, 0));
            refuses(x, INDEX, () -> x.common(0, number));
        }
    }

    private static void delivery() {
        text.reads("Promise 24: delivery double delivery()");
        text.reads("Returns the share of the packets that were delivered.");
        text.says("Returns the number of delivered packets, as a double, divided by the number of packets that "
                + "were sent; 0.0 if none was sent.");
        HolePuncher x = Check.network("ht000(h)");
        Check.dueDouble("none was sent", x.delivery(), 0.0);
        x.send(0, 5, 2, 6);
        Check.dueDouble("0 of 1", x.delivery(), 0.0);
        x.send(2, 5, 0, 6);
        Check.dueDouble("1 of 2", x.delivery(), 0.5);
        x.send(0, 5, 2, 6);
        Check.dueDouble("1 of 3", x.delivery(), 1.0 / 3.0);
        x.begin();
        Check.dueDouble("none was sent", x.delivery(), 0.0);
        x.addHost(NONE);
        x.send(0, 5, 0, 6);
        Check.dueDouble("1 of 1", x.delivery(), 1.0);
    }

    private static void digest() {
        text.reads("Promise 25: digest long digest()");
        text.reads("Computes a hash of the whole state. The hash starts at 1973. For each value v of the "
                + "following list, in order, the hash becomes 31 * hash + v, in long arithmetic with overflow.");
        text.says("The values are: count(0) to count(11); for each node its properties 0 to 6, and, if it is a "
                + "translator, its properties 0 to 8 as translator tells them, and for each of its mappings the "
                + "properties 0 to 6; the length of the buffer and each of its character codes. Returns the hash.");
        Check.due("of a new object", new HolePuncher().digest(),
                Check.hash(0, 0, 0, 0, 0, 0, 0, 0, 0, 0, 0, 0, 0));
        HolePuncher x = Check.network("ht211(h)");
        x.send(2, 5, 0, 6);
        x.pass(4);
        x.send(2, 5, 0, 7);
        x.send(0, 1, 2, 1);
        x.save();
        Check.type(x, "h!");
        long due = Check.hash(
                3, 2, 4, 2, 3, 2, 1, 0, 0, 0, 0, 1,
                0, NONE, 0, 0, 1, 1001, 7,
                1, NONE, 0, 1, NONE, NONE, NONE,
                2, 1, 1, 1, 60, 0, 0, 2, 1002,
                2, 5, 1000, 0, 6, 56, 1,
                2, 5, 1001, 0, 7, 60, 1,
                0, 1, 1, 0, NONE, NONE, NONE,
                2, 'h', '!');
        Check.due("of a network", x.digest(), due);
        Check.due("it changes nothing", x.digest(), due);
    }

    private static void notPromised() {
        text.reads("Not promised");
        text.reads("How the state is held inside the object is free, as are the speed of each call, the text of "
                + "toString and the behaviour of equals and hashCode. Use of one object from several threads at "
                + "once is not promised to be safe. Nothing is promised beyond the answers and state changes "
                + "described above, and nothing about an object after its 512th call.");
    }
}
