/**
 * Every sentence "Throws .. if .." of the promises: the exception, the one that is named first where
 * several are due, and that nothing is changed.
 */
public final class RefusalsTest {
    private static final Class<?> INDEX = IndexOutOfBoundsException.class;
    private static final Class<?> ARGUMENT = IllegalArgumentException.class;
    private static final Class<?> STATE = IllegalStateException.class;
    private static final int NONE = HolePuncher.NONE;
    private static final int LEAST = Integer.MIN_VALUE;
    private static final int GREATEST = Integer.MAX_VALUE;

    private static final Unchanged EMPTY = new Unchanged("without nodes", Unchanged::empty);
    private static final Unchanged RICH = new Unchanged("with 8 nodes", Unchanged::rich);
    private static final Unchanged FULL = new Unchanged("with 10 nodes", Unchanged::full);
    private static final Unchanged LAST = new Unchanged("at the tick 100000", () -> Unchanged.richAt(100000));

    /** In the states rich and full: neither NONE nor a translator. */
    private static final int[] NO_NETS = {LEAST, -2, 0, 2, 3, 6, 7, 8, 9, 10, 11, GREATEST};
    private static final int[] NO_TRANSLATORS = {LEAST, -2, -1, 0, 2, 3, 6, 7, 8, 9, 10, GREATEST};
    private static final int[] NO_HOSTS = {LEAST, -2, -1, 1, 4, 5, 8, 9, 10, GREATEST};
    private static final int[] NO_NODES = {LEAST, -2, -1, 8, 9, 10, GREATEST};
    private static final int[] NO_PORTS = {LEAST, -1, 0, 10000, 10001, GREATEST};
    private static final int[] NO_RULES = {LEAST, -1, 3, GREATEST};

    public static void main(String[] args) {
        addHost();
        addTranslator();
        addTranslatorSeveral();
        netsThatAreGone();
        setNumber();
        setNumberValues();
        pass();
        restore();
        append();
        load();
        packets("send", HolePuncher::send);
        packets("ifSent", HolePuncher::ifSent);
        packets("timeLeft", HolePuncher::timeLeft);
        packets("keepAlive", (x, h, p, n, q) -> x.keepAlive(h, p, n, q, 1, 1));
        reply();
        keepAlive();
        keepAliveTick();
        keepAliveSeveral();
        punchNoHosts();
        punchSame();
        punchTick();
        count();
        node();
        translator();
        mapping();
        common();
        Check.end();
    }

    private static void addHost() {
        Check.sentence("addHost throws IndexOutOfBoundsException if net is neither NONE nor the number of a translator");
        for (int net : NO_NETS) {
            RICH.due(INDEX, "addHost(" + net + ")", x -> x.addHost(net));
            EMPTY.due(INDEX, "addHost(" + net + ")", x -> x.addHost(net));
        }
        for (int net : new int[] {NONE, 1, 4, 5}) {
            Check.due("addHost(" + net + ")", Unchanged.rich().addHost(net), 8);
        }
        Check.sentence("addHost throws IllegalStateException if there are 10 nodes");
        for (int net : new int[] {NONE, 1, 4, 5}) {
            FULL.due(STATE, "addHost(" + net + ")", x -> x.addHost(net));
        }
        HolePuncher nine = Unchanged.rich();
        nine.addHost(NONE);
        Check.due("addHost(NONE) with 9 nodes", nine.addHost(NONE), 9);
        Check.sentence("addHost: if several exceptions apply, the one that is named first is thrown");
        for (int net : NO_NETS) {
            FULL.due(INDEX, "addHost(" + net + ")", x -> x.addHost(net));
        }
    }

    private static void addTranslator() {
        Check.sentence("addTranslator throws IndexOutOfBoundsException if net is neither NONE nor a translator");
        for (int net : NO_NETS) {
            RICH.due(INDEX, "addTranslator(" + net + ", 0, 0, 0)", x -> x.addTranslator(net, 0, 0, 0));
            EMPTY.due(INDEX, "addTranslator(" + net + ", 0, 0, 0)", x -> x.addTranslator(net, 0, 0, 0));
        }
        Check.sentence("addTranslator throws IllegalArgumentException if a rule or the assignment is out of range");
        for (int rule : NO_RULES) {
            RICH.due(ARGUMENT, "mapping rule " + rule, x -> x.addTranslator(NONE, rule, 0, 0));
            RICH.due(ARGUMENT, "filter rule " + rule, x -> x.addTranslator(4, 0, rule, 0));
            RICH.due(ARGUMENT, "assignment " + rule, x -> x.addTranslator(5, 2, 2, rule));
            RICH.due(ARGUMENT, "all of them " + rule, x -> x.addTranslator(1, rule, rule, rule));
        }
        Check.sentence("addTranslator throws IllegalStateException if there are 10 nodes");
        for (int net : new int[] {NONE, 1, 4, 5}) {
            FULL.due(STATE, "addTranslator(" + net + ", 0, 1, 2)", x -> x.addTranslator(net, 0, 1, 2));
        }
        HolePuncher nine = Unchanged.rich();
        nine.addHost(NONE);
        Check.due("addTranslator(5, 2, 2, 2) with 9 nodes", nine.addTranslator(5, 2, 2, 2), 9);
    }

    private static void addTranslatorSeveral() {
        Check.sentence("addTranslator: if several exceptions apply, the one that is named first is thrown");
        for (int net : NO_NETS) {
            RICH.due(INDEX, "net " + net + " and a rule", x -> x.addTranslator(net, 3, 0, 0));
            RICH.due(INDEX, "net " + net + " and an assignment", x -> x.addTranslator(net, 0, 0, -1));
            FULL.due(INDEX, "net " + net, x -> x.addTranslator(net, 0, 0, 0));
            FULL.due(INDEX, "net " + net + " and a rule", x -> x.addTranslator(net, 0, 3, 0));
        }
        for (int rule : NO_RULES) {
            FULL.due(ARGUMENT, "mapping rule " + rule, x -> x.addTranslator(NONE, rule, 0, 0));
            FULL.due(ARGUMENT, "filter rule " + rule, x -> x.addTranslator(1, 0, rule, 0));
            FULL.due(ARGUMENT, "assignment " + rule, x -> x.addTranslator(4, 0, 0, rule));
        }
    }

    /** Numbers of translators that were there before. */
    private static void netsThatAreGone() {
        Check.sentence("there is no such translator any more: after begin, load and restore");
        Unchanged begun = new Unchanged("after begin", () -> {
            HolePuncher x = Unchanged.rich();
            x.begin();
            return x;
        });
        Unchanged loaded = new Unchanged("after load", () -> {
            HolePuncher x = Unchanged.rich();
            x.append(')');
            x.load();
            return x;
        });
        Unchanged restored = new Unchanged("after restore", () -> {
            HolePuncher x = Unchanged.rich();
            x.addTranslator(NONE, 0, 0, 0);
            x.restore();
            return x;
        });
        int[] gone = {1, 1, 8};
        Unchanged[] states = {begun, loaded, restored};
        for (int i = 0; i < states.length; i++) {
            int old = gone[i];
            states[i].due(INDEX, "addHost(" + old + ")", x -> x.addHost(old));
            states[i].due(INDEX, "addTranslator(" + old + ", ..)", x -> x.addTranslator(old, 0, 0, 0));
            states[i].due(INDEX, "setNumber(" + old + ", ..)", x -> x.setNumber(old, 0, 1));
            states[i].due(INDEX, "translator(" + old + ", 0)", x -> x.translator(old, 0));
            states[i].due(INDEX, "mapping(" + old + ", 0, 0)", x -> x.mapping(old, 0, 0));
        }
        begun.due(INDEX, "send of an old host", x -> x.send(0, 1, 0, 1));
        begun.due(INDEX, "reply of an old host", x -> x.reply(0));
        begun.due(INDEX, "node(0, 0)", x -> x.node(0, 0));
        loaded.due(INDEX, "node(2, 0)", x -> x.node(2, 0));
        loaded.due(STATE, "reply of a new host", x -> x.reply(1));
        restored.due(INDEX, "send to an old node", x -> x.send(0, 1, 8, 1));
        restored.due(INDEX, "common(0, 8)", x -> x.common(0, 8));
    }

    private static void setNumber() {
        Check.sentence("setNumber throws IndexOutOfBoundsException if there is no such translator");
        for (int translator : NO_TRANSLATORS) {
            RICH.due(INDEX, "setNumber(" + translator + ", 1, 30)", x -> x.setNumber(translator, 1, 30));
        }
        EMPTY.due(INDEX, "setNumber(0, 1, 30)", x -> x.setNumber(0, 1, 30));
        Check.sentence("setNumber throws IllegalArgumentException if what is not 0 to 3");
        for (int what : new int[] {LEAST, -1, 4, 5, GREATEST}) {
            RICH.due(ARGUMENT, "setNumber(4, " + what + ", 1)", x -> x.setNumber(4, what, 1));
        }
        Check.sentence("setNumber: if several exceptions apply, the one that is named first is thrown");
        for (int translator : NO_TRANSLATORS) {
            RICH.due(INDEX, "setNumber(" + translator + ", 4, 1)", x -> x.setNumber(translator, 4, 1));
            RICH.due(INDEX, "setNumber(" + translator + ", 0, 10)", x -> x.setNumber(translator, 0, 10));
            RICH.due(INDEX, "setNumber(" + translator + ", -1, -1)", x -> x.setNumber(translator, -1, -1));
        }
    }

    private static void setNumberValues() {
        Check.sentence("setNumber throws IllegalArgumentException if value is out of range");
        int[] least = {1, 1, 0, 0};
        int[] greatest = {9, 1000, 1, 1};
        for (int i = 0; i < 4; i++) {
            int what = i;
            for (int value : new int[] {LEAST, least[i] - 2, least[i] - 1, greatest[i] + 1, greatest[i] + 2, GREATEST}) {
                RICH.due(ARGUMENT, "setNumber(5, " + what + ", " + value + ")", x -> x.setNumber(5, what, value));
            }
            for (int value : new int[] {least[i], greatest[i]}) {
                HolePuncher x = Unchanged.rich();
                x.setNumber(5, what, value);
                Check.due("setNumber(5, " + what + ", " + value + ")", x.translator(5, what + 3), value);
            }
        }
    }

    private static void pass() {
        Check.sentence("pass throws IllegalArgumentException if ticks is not 1 to 1000");
        for (int ticks : new int[] {LEAST, -1, 0, 1001, 1002, GREATEST}) {
            RICH.due(ARGUMENT, "pass(" + ticks + ")", x -> x.pass(ticks));
            EMPTY.due(ARGUMENT, "pass(" + ticks + ")", x -> x.pass(ticks));
        }
        Check.sentence("pass throws IllegalStateException if the tick would be greater than 100000");
        int[][] edges = {{100000, 0}, {99999, 1}, {99001, 999}};
        for (int[] edge : edges) {
            Unchanged late = new Unchanged("at the tick " + edge[0], () -> Unchanged.richAt(edge[0]));
            late.due(STATE, "pass(" + (edge[1] + 1) + ")", x -> x.pass(edge[1] + 1));
            late.due(STATE, "pass(1000)", x -> x.pass(1000));
            if (edge[1] > 0) {
                HolePuncher x = Unchanged.richAt(edge[0]);
                x.pass(edge[1]);
                Check.due("the tick after pass(" + edge[1] + ")", x.count(2), 100000);
            }
        }
        HolePuncher x = Unchanged.richAt(99000);
        x.pass(1000);
        Check.due("the tick after pass(1000)", x.count(2), 100000);
        Check.sentence("pass: if several exceptions apply, the one that is named first is thrown");
        for (int ticks : new int[] {1001, GREATEST, 0, LEAST}) {
            LAST.due(ARGUMENT, "pass(" + ticks + ")", late -> late.pass(ticks));
        }
    }

    private static void restore() {
        Check.sentence("restore throws IllegalStateException if no state is saved");
        EMPTY.due(STATE, "restore()", HolePuncher::restore);
        new Unchanged("with nodes, packets and a text", () -> {
            HolePuncher x = Check.network("t202(h)h");
            x.send(1, 500, 2, 1);
            x.pass(1);
            x.append('h');
            return x;
        }).due(STATE, "restore()", HolePuncher::restore);
        new Unchanged("after begin", () -> {
            HolePuncher x = Unchanged.rich();
            x.begin();
            return x;
        }).due(STATE, "restore()", HolePuncher::restore);
        new Unchanged("after load", () -> {
            HolePuncher x = Unchanged.rich();
            x.append(')');
            x.load();
            return x;
        }).due(STATE, "restore()", HolePuncher::restore);
    }

    private static HolePuncher withText(String text) {
        HolePuncher x = Unchanged.rich();
        x.clearBuffer();
        Check.type(x, text);
        return x;
    }

    private static void append() {
        Check.sentence("append throws IllegalArgumentException if code is not 33 to 126");
        int[] noCodes = {LEAST, -1, 0, 10, 31, 32, 127, 128, 256 + 'h', GREATEST};
        for (int code : noCodes) {
            RICH.due(ARGUMENT, "append(" + code + ")", x -> x.append(code));
        }
        Check.sentence("append throws IllegalStateException if the buffer has 40 characters");
        Unchanged fullText = new Unchanged("with 40 characters", () -> withText("h".repeat(40)));
        Unchanged network = new Unchanged("with a network of 40 characters",
                () -> withText("t000()".repeat(6) + "hhhh"));
        for (int code : new int[] {33, '(', 'h', 126}) {
            fullText.due(STATE, "append(" + code + ")", x -> x.append(code));
            network.due(STATE, "append(" + code + ")", x -> x.append(code));
        }
        Check.due("append as the 40th", withText("h".repeat(39)).append('h'), 40);
        Check.sentence("append: if several exceptions apply, the one that is named first is thrown");
        for (int code : noCodes) {
            fullText.due(ARGUMENT, "append(" + code + ")", x -> x.append(code));
        }
    }

    private static void load() {
        Check.sentence("load throws IllegalArgumentException if the buffer is not a complete network");
        String[] texts = {"", "t", "t0", "t00", "t000", "t000(", "t000(h", "t000(t111()", "t000(t111(h", "ht", "ht0",
            ")", "(", "0", "x", "h)", "h(", "()", "(h)", "hx", "xh", "t()", "t0()", "t00()", "t0000()", "t300()",
            "t030()", "t003()", "t000)", "t000h", "t000())", "t000()(", "T000()", "H", "hhhhhhhhhhh", "hhhhhhhhhht",
            "hhhhhhhhht000(h)", "hhhhhhhhht000()h", "hhhhhhhhht000(", "t000(".repeat(8),
            "t000()".repeat(6) + "hhh(", "t000()".repeat(6) + "hhh)", "t000()".repeat(6) + "hhht"};
        for (String text : texts) {
            new Unchanged("with " + text, () -> withText(text)).due(ARGUMENT, "load()", HolePuncher::load);
        }
        EMPTY.due(ARGUMENT, "load()", HolePuncher::load);
    }

    private interface Packet {
        long run(HolePuncher x, int host, int port, int node, int remotePort);
    }

    private static void packets(String name, Packet packet) {
        Check.sentence(name + " throws IndexOutOfBoundsException if host is not a host, or there is no such node");
        for (int host : NO_HOSTS) {
            RICH.due(INDEX, name + " from " + host, x -> packet.run(x, host, 1, 0, 1));
            RICH.due(INDEX, name + " from and to " + host, x -> packet.run(x, host, 1, host, 1));
        }
        for (int node : NO_NODES) {
            RICH.due(INDEX, name + " to " + node, x -> packet.run(x, 2, 1, node, 1));
        }
        EMPTY.due(INDEX, name + " without nodes", x -> packet.run(x, 0, 1, 0, 1));
        Check.sentence(name + " throws IllegalArgumentException if one of the ports is not 1 to 9999");
        for (int port : NO_PORTS) {
            RICH.due(ARGUMENT, name + " from the port " + port, x -> packet.run(x, 2, port, 0, 1));
            RICH.due(ARGUMENT, name + " to the port " + port, x -> packet.run(x, 6, 9999, 4, port));
            RICH.due(ARGUMENT, name + " with both ports " + port, x -> packet.run(x, 0, port, 0, port));
        }
        Check.sentence(name + ": if several exceptions apply, the one that is named first is thrown");
        for (int port : NO_PORTS) {
            RICH.due(INDEX, name + " from 1 and the port " + port, x -> packet.run(x, 1, port, 0, 1));
            RICH.due(INDEX, name + " from 8 to the port " + port, x -> packet.run(x, 8, 1, 0, port));
            RICH.due(INDEX, name + " from the port " + port + " to -1", x -> packet.run(x, 2, port, -1, 1));
            RICH.due(INDEX, name + " to 8 and the port " + port, x -> packet.run(x, 2, 1, 8, port));
        }
    }

    private static void reply() {
        Check.sentence("reply throws IndexOutOfBoundsException if host is not the number of a host");
        for (int host : NO_HOSTS) {
            RICH.due(INDEX, "reply(" + host + ")", x -> x.reply(host));
        }
        EMPTY.due(INDEX, "reply(0)", x -> x.reply(0));
        Check.sentence("reply throws IllegalStateException if the host has no delivery");
        RICH.due(STATE, "reply(7)", x -> x.reply(7));
        FULL.due(STATE, "reply(8)", x -> x.reply(8));
        FULL.due(STATE, "reply(9)", x -> x.reply(9));
        Unchanged restored = new Unchanged("whose delivery came after save", () -> {
            HolePuncher x = Unchanged.rich();
            x.restore();
            return x;
        });
        restored.due(STATE, "reply(6)", x -> x.reply(6));
        Check.sentence("reply: if several exceptions apply, the one that is named first is thrown");
        RICH.due(INDEX, "reply of a translator, which has no delivery", x -> x.reply(1));
    }

    private static void keepAlive() {
        Check.sentence("keepAlive throws IllegalArgumentException if another argument is out of range");
        for (int interval : new int[] {LEAST, -1, 0, 1001, GREATEST}) {
            RICH.due(ARGUMENT, "interval " + interval, x -> x.keepAlive(2, 500, 0, 1, interval, 1));
            RICH.due(ARGUMENT, "interval " + interval + ", 20 times", x -> x.keepAlive(2, 500, 0, 1, interval, 20));
        }
        for (int many : new int[] {LEAST, -1, 0, 21, GREATEST}) {
            RICH.due(ARGUMENT, "many " + many, x -> x.keepAlive(2, 500, 0, 1, 1, many));
            RICH.due(ARGUMENT, "many " + many + " with the interval 1000", x -> x.keepAlive(2, 500, 0, 1, 1000, many));
        }
        // These products are small, or wrap round to small ones.
        RICH.due(ARGUMENT, "interval -1, many -1", x -> x.keepAlive(2, 500, 0, 1, -1, -1));
        RICH.due(ARGUMENT, "both 65536", x -> x.keepAlive(2, 500, 0, 1, 65536, 65536));
        Check.due("1000 ticks, 20 times", Unchanged.rich().keepAlive(2, 500, 0, 1, 1000, 20), 20);
        Check.due("1 tick, once", Unchanged.rich().keepAlive(2, 500, 0, 1, 1, 1), 1);
    }

    private static void keepAliveTick() {
        Check.sentence("keepAlive throws IllegalStateException if the tick would be greater than 100000");
        LAST.due(STATE, "keepAlive of 1 tick", x -> x.keepAlive(2, 500, 0, 1, 1, 1));
        LAST.due(STATE, "keepAlive of 20000 ticks", x -> x.keepAlive(2, 500, 0, 1, 1000, 20));
        Unchanged late = new Unchanged("at the tick 99980", () -> Unchanged.richAt(99980));
        int[][] tooMuch = {{21, 1}, {11, 2}, {7, 3}, {3, 7}, {2, 11}, {2, 20}, {1000, 1}, {1000, 20}};
        for (int[] row : tooMuch) {
            late.due(STATE, "keepAlive of " + row[0] + " ticks " + row[1] + " times",
                    x -> x.keepAlive(2, 500, 0, 1, row[0], row[1]));
        }
        Unchanged early = new Unchanged("at the tick 80001", () -> Unchanged.richAt(80001));
        early.due(STATE, "keepAlive of 20000 ticks", x -> x.keepAlive(2, 500, 0, 1, 1000, 20));
        int[][] enough = {{99980, 20, 1}, {99980, 10, 2}, {99980, 1, 20}, {80000, 1000, 20}};
        for (int[] row : enough) {
            HolePuncher x = Unchanged.richAt(row[0]);
            Check.due("keepAlive at " + row[0], x.keepAlive(2, 500, 0, 1, row[1], row[2]), row[2]);
            Check.due("the tick after it", x.count(2), 100000);
        }
    }

    private static void keepAliveSeveral() {
        Check.sentence("keepAlive: if several exceptions apply, the one that is named first is thrown");
        for (int host : NO_HOSTS) {
            RICH.due(INDEX, "from " + host + ", interval 0", x -> x.keepAlive(host, 500, 0, 1, 0, 1));
            LAST.due(INDEX, "from " + host, x -> x.keepAlive(host, 500, 0, 1, 1, 1));
            LAST.due(INDEX, "from " + host + ", many 0", x -> x.keepAlive(host, 500, 0, 1, 1, 0));
        }
        for (int node : NO_NODES) {
            RICH.due(INDEX, "to " + node + ", many 21", x -> x.keepAlive(2, 500, node, 1, 1, 21));
            LAST.due(INDEX, "to " + node, x -> x.keepAlive(2, 500, node, 1, 1, 1));
            LAST.due(INDEX, "to " + node + ", port 0", x -> x.keepAlive(2, 0, node, 1, 1, 1));
        }
        LAST.due(ARGUMENT, "from the port 0", x -> x.keepAlive(2, 0, 0, 1, 1, 1));
        LAST.due(ARGUMENT, "to the port 10000", x -> x.keepAlive(2, 1, 0, 10000, 1, 1));
        LAST.due(ARGUMENT, "interval 1001", x -> x.keepAlive(2, 1, 0, 1, 1001, 1));
        LAST.due(ARGUMENT, "many 21", x -> x.keepAlive(2, 1, 0, 1, 1, 21));
    }

    private static void punchNoHosts() {
        Check.sentence("punch throws IndexOutOfBoundsException if one of the three is not the number of a host");
        for (int host : NO_HOSTS) {
            RICH.due(INDEX, "punch(" + host + ", 6, 0)", x -> x.punch(host, 6, 0, false));
            RICH.due(INDEX, "punch(2, " + host + ", 0)", x -> x.punch(2, host, 0, true));
            RICH.due(INDEX, "punch(2, 6, " + host + ")", x -> x.punch(2, 6, host, false));
        }
        EMPTY.due(INDEX, "punch(0, 1, 2)", x -> x.punch(0, 1, 2, true));
        Check.sentence("punch: if several exceptions apply, IndexOutOfBoundsException is thrown first");
        for (int host : NO_HOSTS) {
            RICH.due(INDEX, "the same two, no hosts, " + host, x -> x.punch(host, host, 0, false));
            RICH.due(INDEX, "all three the same, " + host, x -> x.punch(host, host, host, true));
            RICH.due(INDEX, "the other two the same, " + host, x -> x.punch(host, 6, 6, true));
            RICH.due(INDEX, "the server the first, " + host, x -> x.punch(2, host, 2, false));
            LAST.due(INDEX, "punch(" + host + ", 6, 0)", x -> x.punch(host, 6, 0, false));
            LAST.due(INDEX, "punch(2, 2, " + host + ")", x -> x.punch(2, 2, host, false));
        }
    }

    private static void punchSame() {
        Check.sentence("punch throws IllegalArgumentException if two of them are the same");
        int[][] same = {{2, 2, 0}, {2, 6, 2}, {2, 6, 6}, {0, 0, 0}};
        for (int[] row : same) {
            String name = "punch(" + row[0] + ", " + row[1] + ", " + row[2] + ")";
            RICH.due(ARGUMENT, name, x -> x.punch(row[0], row[1], row[2], false));
            RICH.due(ARGUMENT, name + " with prediction", x -> x.punch(row[0], row[1], row[2], true));
        }
        Check.sentence("punch: if several exceptions apply, IllegalArgumentException before IllegalStateException");
        for (int[] row : same) {
            LAST.due(ARGUMENT, "the same", x -> x.punch(row[0], row[1], row[2], true));
        }
    }

    private static void punchTick() {
        Check.sentence("punch throws IllegalStateException if the tick is greater than 99990");
        for (int tick : new int[] {99991, 99995, 99999, 100000}) {
            Unchanged late = new Unchanged("at the tick " + tick, () -> Unchanged.richAt(tick));
            late.due(STATE, "punch(2, 6, 0, false)", x -> x.punch(2, 6, 0, false));
            late.due(STATE, "punch(6, 2, 0, true)", x -> x.punch(6, 2, 0, true));
            // It would fail before the rounds, without a tick.
            late.due(STATE, "punch(0, 2, 6, true)", x -> x.punch(0, 2, 6, true));
        }
        HolePuncher x = Unchanged.richAt(99990);
        Check.due("punch(0, 2, 6, true) at 99990", x.punch(0, 2, 6, true), 0);
        Check.due("punch of five rounds at 99990", x.punch(2, 3, 0, false), -1);
        Check.due("the tick after it", x.count(2), 99995);
    }

    private static void count() {
        Check.sentence("count throws IllegalArgumentException if what is not 0 to 11");
        for (int what : new int[] {LEAST, -1, 12, 13, GREATEST}) {
            RICH.due(ARGUMENT, "count(" + what + ")", x -> x.count(what));
            EMPTY.due(ARGUMENT, "count(" + what + ")", x -> x.count(what));
        }
    }

    private static void node() {
        Check.sentence("node throws IndexOutOfBoundsException if the node does not exist");
        for (int node : NO_NODES) {
            RICH.due(INDEX, "node(" + node + ", 0)", x -> x.node(node, 0));
            EMPTY.due(INDEX, "node(" + node + ", 6)", x -> x.node(node, 6));
        }
        EMPTY.due(INDEX, "node(0, 0)", x -> x.node(0, 0));
        FULL.due(INDEX, "node(10, 0)", x -> x.node(10, 0));
        Check.due("node(9, 0) of 10 nodes", Unchanged.full().node(9, 0), 0);
        Check.sentence("node throws IllegalArgumentException if what is not 0 to 6");
        for (int what : new int[] {LEAST, -1, 7, 8, GREATEST}) {
            RICH.due(ARGUMENT, "node(0, " + what + ")", x -> x.node(0, what));
            RICH.due(ARGUMENT, "node(1, " + what + ")", x -> x.node(1, what));
            RICH.due(ARGUMENT, "node(7, " + what + ")", x -> x.node(7, what));
        }
        Check.sentence("node: if several exceptions apply, the one that is named first is thrown");
        for (int node : NO_NODES) {
            RICH.due(INDEX, "node(" + node + ", 7)", x -> x.node(node, 7));
            RICH.due(INDEX, "node(" + node + ", -1)", x -> x.node(node, -1));
        }
    }

    private static void translator() {
        Check.sentence("translator throws IndexOutOfBoundsException if there is no such translator");
        for (int translator : NO_TRANSLATORS) {
            RICH.due(INDEX, "translator(" + translator + ", 0)", x -> x.translator(translator, 0));
            EMPTY.due(INDEX, "translator(" + translator + ", 8)", x -> x.translator(translator, 8));
        }
        Check.sentence("translator throws IllegalArgumentException if what is not 0 to 8");
        for (int what : new int[] {LEAST, -1, 9, 10, GREATEST}) {
            RICH.due(ARGUMENT, "translator(1, " + what + ")", x -> x.translator(1, what));
            RICH.due(ARGUMENT, "translator(5, " + what + ")", x -> x.translator(5, what));
        }
        Check.sentence("translator: if several exceptions apply, the one that is named first is thrown");
        for (int translator : NO_TRANSLATORS) {
            RICH.due(INDEX, "translator(" + translator + ", 9)", x -> x.translator(translator, 9));
            RICH.due(INDEX, "translator(" + translator + ", -1)", x -> x.translator(translator, -1));
        }
    }

    private static void mapping() {
        Check.sentence("mapping throws IndexOutOfBoundsException if there is no such translator or mapping");
        for (int translator : NO_TRANSLATORS) {
            RICH.due(INDEX, "mapping(" + translator + ", 0, 0)", x -> x.mapping(translator, 0, 0));
        }
        int[][] sizes = {{1, Unchanged.rich().translator(1, 7)}, {4, Unchanged.rich().translator(4, 7)}};
        for (int[] row : sizes) {
            for (int mapping : new int[] {LEAST, -1, row[1], row[1] + 1, 7, 8, GREATEST}) {
                RICH.due(INDEX, "mapping(" + row[0] + ", " + mapping + ", 0)", x -> x.mapping(row[0], mapping, 0));
            }
            Check.due("the last mapping's inner net", Unchanged.rich().node(
                    Unchanged.rich().mapping(row[0], row[1] - 1, 0), 1), row[0]);
        }
        Unchanged dead = new Unchanged("when all mappings are dead", () -> {
            HolePuncher x = Unchanged.rich();
            x.pass(71);
            return x;
        });
        for (int mapping = 0; mapping < 8; mapping++) {
            int gone = mapping;
            dead.due(INDEX, "mapping(1, " + gone + ", 0)", x -> x.mapping(1, gone, 0));
            dead.due(INDEX, "mapping(4, " + gone + ", 5)", x -> x.mapping(4, gone, 5));
        }
        Check.sentence("mapping throws IllegalArgumentException if what is not 0 to 6");
        for (int what : new int[] {LEAST, -1, 7, 8, GREATEST}) {
            RICH.due(ARGUMENT, "mapping(1, 0, " + what + ")", x -> x.mapping(1, 0, what));
            RICH.due(ARGUMENT, "mapping(4, 1, " + what + ")", x -> x.mapping(4, 1, what));
        }
        Check.sentence("mapping: if several exceptions apply, the one that is named first is thrown");
        for (int translator : NO_TRANSLATORS) {
            RICH.due(INDEX, "mapping(" + translator + ", 0, 7)", x -> x.mapping(translator, 0, 7));
        }
        RICH.due(INDEX, "mapping(1, 8, 7)", x -> x.mapping(1, 8, 7));
        RICH.due(INDEX, "mapping(1, -1, -1)", x -> x.mapping(1, -1, -1));
    }

    private static void common() {
        Check.sentence("common throws IndexOutOfBoundsException if one of the nodes does not exist");
        for (int node : NO_NODES) {
            RICH.due(INDEX, "common(" + node + ", 0)", x -> x.common(node, 0));
            RICH.due(INDEX, "common(0, " + node + ")", x -> x.common(0, node));
            RICH.due(INDEX, "common(" + node + ", " + node + ")", x -> x.common(node, node));
        }
        EMPTY.due(INDEX, "common(0, 0)", x -> x.common(0, 0));
        FULL.due(INDEX, "common(10, 9)", x -> x.common(10, 9));
    }
}
