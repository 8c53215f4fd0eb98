/** The boundary cases of the paragraph The way of a packet, and of send, reply, keepAlive and ifSent. */
public final class WayBoundsTest {
    private static final Class<?> STATE = IllegalStateException.class;
    private static final int NONE = HolePuncher.NONE;

    public static void main(String[] args) {
        unreachable();
        sameNet();
        inAtTranslator();
        hairpin();
        hairpinJustBefore();
        hairpinInstead();
        noMapping();
        filterNone();
        filterNode();
        filterEndpoint();
        filterInChain();
        refresh();
        refreshOnlyIfPassed();
        goesOn();
        changesStay();
        latestDelivery();
        sendReturns();
        reply();
        replyLost();
        keepAliveEdges();
        keepAliveReturns();
        ifSentAnswers();
        ifSentChangesNothing();
        Check.end();
    }

    private static void unreachable() {
        Check.sentence("As long as n is not in the present net, it goes out through the translator of the present net; "
                + "if the present net is the public one, the packet is lost for the reason 1.");
        HolePuncher x = Check.network("ht000(t000(h)h)t000(h)");
        Check.due("from the public net into a net", x.send(0, 1, 4, 1), -1);
        Check.due("two nets deep", x.send(0, 1, 3, 1), -1);
        Check.due("to an inner translator", x.send(0, 1, 2, 500), -1);
        Check.due("no mapping", x.count(3), 0);
        Check.due("from one net into another", x.send(6, 500, 4, 1), -1);
        Check.due("its mapping", x.translator(5, 7), 1);
        Check.due("out of two nets into another", x.send(3, 500, 6, 1), -1);
        Check.due("its mappings", x.translator(1, 7) + x.translator(2, 7), 2);
        Check.due("into a net further in", x.send(4, 500, 3, 1), -1);
        Check.due("it went out all the same", x.translator(1, 7), 2);
        Check.due("no further than needed", x.send(3, 600, 4, 1), 4);
        Check.due("only the inner one is used", x.translator(1, 7), 2);
        Check.due("lost for the reason 1", x.count(6), 6);
    }

    private static void sameNet() {
        Check.sentence("When n is in the present net: if n is a host, the packet is delivered to n at the port q.");
        HolePuncher x = Check.network("hht000(h)");
        Check.due("beside it", x.send(0, 1, 1, 9999), 1);
        Check.due("to itself", x.send(1, 9999, 1, 1), 1);
        Check.due("its source is itself", x.node(1, 4) * 10000 + x.node(1, 5), 19999);
        Check.due("its port", x.node(1, 6), 1);
        Check.due("to itself, at the same port", x.send(3, 500, 3, 500), 3);
        Check.due("no translator was used", x.count(3), 0);
        Check.due("its source", x.node(3, 4), 3);
    }

    private static void inAtTranslator() {
        Check.sentence("If n is a translator, the packet comes in at n");
        HolePuncher x = Check.network("t000(t000(h)h)h");
        x.send(2, 500, 4, 1);
        Check.due("from beside the outer one", x.send(4, 9, 0, 500), 2);
        Check.due("from beside the inner one", x.send(3, 9, 1, 500), 2);
        Check.due("the source", x.node(2, 4), 3);
        Check.due("a translator has no delivery", x.node(0, 4), NONE);
        Check.due("nor is it delivered to it", x.send(4, 9, 0, 501), -2);
    }

    private static void hairpin() {
        Check.sentence("but if it went out through n just before, and n allows no hairpins, it is lost for the reason 4 "
                + "instead");
        HolePuncher x = Check.network("t000(hh)h");
        x.send(2, 600, 3, 1);
        Check.due("without hairpins", x.send(1, 500, 0, 600), -4);
        Check.due("to its own port", x.send(1, 500, 0, 500), -4);
        x.setNumber(0, 2, 1);
        Check.due("with hairpins", x.send(1, 500, 0, 600), 2);
        Check.due("seen with its outer port", x.node(2, 4) * 10000 + x.node(2, 5), 500);
        Check.due("to its own port", x.send(1, 500, 0, 500), 1);
        Check.due("to the port of the mapping that it makes", x.send(1, 777, 0, 777), 1);
        x.setNumber(0, 2, 0);
        Check.due("without hairpins again", x.send(1, 500, 0, 600), -4);
        Check.due("from outside", x.send(3, 1, 0, 600), 2);
    }

    private static void hairpinJustBefore() {
        Check.sentence("if it went out through n just before");
        HolePuncher x = Check.network("t000(t000(h)t000(h)h)h");
        x.send(2, 500, 6, 1);
        x.send(4, 600, 6, 1);
        Check.due("through 1 to 3", x.send(2, 500, 3, 600), 4);
        Check.due("through 1 to 1", x.send(2, 500, 1, 500), -4);
        Check.due("through 1 and 0 to 0", x.send(2, 500, 0, 600), -4);
        x.setNumber(1, 2, 1);
        Check.due("the hairpins of 1 are not those of 0", x.send(2, 500, 0, 600), -4);
        Check.due("through 1 to 1, with hairpins", x.send(2, 500, 1, 500), 2);
        x.setNumber(0, 2, 1);
        x.setNumber(1, 2, 0);
        Check.due("through 1 and 0 to 0, with hairpins", x.send(2, 500, 0, 600), 4);
        Check.due("in at 1, through which it did not go just before", x.send(2, 500, 0, 500), 2);
        Check.due("from beside 1", x.send(5, 1, 1, 500), 2);
    }

    private static void hairpinInstead() {
        Check.sentence("it is lost for the reason 4 instead");
        HolePuncher x = Check.network("t220(hh)h");
        x.send(2, 600, 3, 1);
        Check.due("where there is no mapping", x.send(1, 500, 0, 9), -4);
        Check.due("where it would be filtered", x.send(1, 500, 0, 600), -4);
        Check.due("lost for the reasons 2 and 3", x.count(7) + x.count(8), 0);
        Check.due("lost for the reason 4", x.count(9), 2);
        x.setNumber(0, 2, 1);
        Check.due("with hairpins there is no mapping", x.send(1, 500, 0, 9), -2);
        Check.due("with hairpins it is filtered", x.send(1, 500, 0, 600), -3);
        x.setNumber(0, 2, 0);
        for (int port = 1; port <= 5; port++) {
            x.send(2, 700, 3, port);
        }
        Check.due("it does not come so far without room", x.send(1, 501, 0, 9), -5);
    }

    private static void noMapping() {
        Check.sentence("When a packet comes in at a translator at a port, the mapping with this outer port is used; if "
                + "there is none, the packet is lost for the reason 2.");
        HolePuncher x = Check.network("ht001(h)");
        Check.due("without mappings", x.send(0, 1, 1, 1000), -2);
        x.send(2, 500, 0, 1);
        Check.due("the outer port", x.send(0, 1, 1, 1000), 2);
        Check.due("one less", x.send(0, 1, 1, 999), -2);
        Check.due("one more", x.send(0, 1, 1, 1001), -2);
        Check.due("the inner port", x.send(0, 1, 1, 500), -2);
        Check.due("the least port", x.send(0, 1, 1, 1), -2);
        Check.due("the greatest port", x.send(0, 1, 1, 9999), -2);
        Check.due("no mapping was made", x.count(3), 1);
        Check.due("lost for the reason 2", x.count(7), 6);
        x.pass(61);
        Check.due("a dead one", x.send(0, 1, 1, 1000), -2);
    }

    private static void filterNone() {
        Check.sentence("It passes if the filter rule is 0");
        HolePuncher x = Check.network("hht200(h)");
        x.send(3, 500, 0, 7);
        Check.due("from the contact", x.send(0, 7, 2, 500), 3);
        Check.due("from another port", x.send(0, 8, 2, 500), 3);
        Check.due("from another node", x.send(1, 7, 2, 500), 3);
        Check.due("it makes no contact", x.mapping(2, 0, 6), 1);
    }

    private static void filterNode() {
        Check.sentence("or if the rule is 1, and the node of its source endpoint is that of a contact of the mapping");
        HolePuncher x = Check.network("hht210(h)h");
        x.send(3, 500, 0, 7);
        Check.due("from the contact", x.send(0, 7, 2, 500), 3);
        Check.due("from its node, the least port", x.send(0, 1, 2, 500), 3);
        Check.due("from its node, the greatest port", x.send(0, 9999, 2, 500), 3);
        Check.due("from another node with the same port", x.send(1, 7, 2, 500), -3);
        x.send(3, 600, 1, 7);
        Check.due("a contact of another mapping", x.send(1, 7, 2, 500), -3);
        Check.due("at that mapping", x.send(1, 8, 2, 600), 3);
        Check.due("the node 0 is no contact there", x.send(0, 7, 2, 600), -3);
        Check.due("the last node", x.send(4, 7, 2, 500), -3);
        Check.due("lost for the reason 3", x.count(8), 4);
    }

    private static void filterEndpoint() {
        Check.sentence("or if the rule is 2, and its source endpoint is a contact; otherwise it is lost for the reason 3");
        HolePuncher x = Check.network("hht120(h)");
        x.send(3, 500, 0, 1);
        x.send(3, 500, 0, 9999);
        Check.due("from the first contact", x.send(0, 1, 2, 500), 3);
        Check.due("from the second contact", x.send(0, 9999, 2, 500), 3);
        Check.due("from a port beside it", x.send(0, 2, 2, 500), -3);
        Check.due("from a port beside it", x.send(0, 9998, 2, 500), -3);
        Check.due("from the same port of another node", x.send(1, 1, 2, 500), -3);
        x.send(3, 500, 1, 1);
        Check.due("a contact of another mapping", x.send(1, 1, 2, 500), -3);
        Check.due("at its own mapping", x.send(1, 1, 2, 501), 3);
    }

    private static void filterInChain() {
        Check.sentence("its source endpoint is a contact: every translator on the way has the same contact");
        HolePuncher x = Check.network("ht020(t020(h))t020(h)");
        x.send(3, 500, 4, 500);
        x.send(5, 500, 1, 500);
        Check.due("what 5 sent is delivered", x.node(3, 4), 4);
        Check.due("at the port of its translator", x.node(3, 5), 500);
        Check.due("the other way", x.send(3, 500, 4, 500), 5);
        Check.due("not from a third one", x.send(0, 500, 1, 500), -3);
        // The outer translator has two inner endpoints for the same host, each with its own contact.
        HolePuncher y = Check.network("ht020(t220(h))");
        y.send(3, 500, 0, 1);
        y.send(3, 500, 0, 2);
        Check.due("the first to the first", y.send(0, 1, 1, 500), 3);
        Check.due("the second to the first", y.send(0, 2, 1, 500), -3);
        Check.due("the second to the second", y.send(0, 2, 1, 501), 3);
    }

    private static void refresh() {
        Check.sentence("If the translator refreshes inwards, the tick of the latest use of the mapping becomes the "
                + "present one.");
        HolePuncher x = Check.network("ht000(h)");
        x.send(2, 500, 0, 1);
        x.pass(60);
        Check.due("without it", x.send(0, 1, 1, 500), 2);
        Check.due("the time stays", x.mapping(1, 0, 5), 0);
        x.setNumber(1, 3, 1);
        Check.due("with it, at the last tick", x.send(0, 1, 1, 500), 2);
        Check.due("the time is new", x.mapping(1, 0, 5), 60);
        Check.due("so it lives", x.pass(60), 0);
        Check.due("until then", x.pass(1), 1);
        HolePuncher y = Check.network("ht000(t000(h))");
        y.send(3, 500, 0, 1);
        y.setNumber(2, 3, 1);
        y.pass(10);
        y.send(0, 1, 1, 500);
        Check.due("the outer one does not", y.mapping(1, 0, 5), 50);
        Check.due("the inner one does", y.mapping(2, 0, 5), 60);
    }

    private static void refreshOnlyIfPassed() {
        Check.sentence("It passes if ..; otherwise it is lost for the reason 3: such a packet refreshes nothing");
        HolePuncher x = Check.network("ht020(t020(h))");
        x.send(3, 500, 0, 1);
        x.setNumber(1, 3, 1);
        x.setNumber(2, 3, 1);
        x.pass(10);
        Check.due("filtered at the outer one", x.send(0, 2, 1, 500), -3);
        Check.due("the outer one", x.mapping(1, 0, 5), 50);
        Check.due("the inner one", x.mapping(2, 0, 5), 50);
        HolePuncher y = Check.network("ht000(t020(h))");
        y.send(3, 500, 0, 1);
        y.setNumber(1, 3, 1);
        y.setNumber(2, 3, 1);
        y.pass(10);
        Check.due("filtered at the inner one", y.send(0, 2, 1, 500), -3);
        Check.due("the outer one", y.mapping(1, 0, 5), 60);
        Check.due("the inner one", y.mapping(2, 0, 5), 50);
    }

    private static void goesOn() {
        Check.sentence("Then the packet goes on to the inner endpoint of the mapping: it is delivered to it if that is a "
                + "host; otherwise it comes in at that translator.");
        HolePuncher x = Check.network("ht001(t001(h)h)");
        x.send(4, 9999, 0, 1);
        x.send(3, 1, 0, 1);
        Check.due("to a host", x.send(0, 5, 1, 1000), 4);
        Check.due("at its port", x.node(4, 6), 9999);
        Check.due("to a translator and on", x.send(0, 5, 1, 1001), 3);
        Check.due("at its port", x.node(3, 6), 1);
        Check.due("the source stays", x.node(3, 4) * 10000 + x.node(3, 5), 5);
        x.setNumber(2, 1, 1);
        x.pass(2);
        Check.due("the inner translator has no mapping any more", x.send(0, 5, 1, 1001), -2);
    }

    private static void changesStay() {
        Check.sentence("What a packet has changed on its way stays so, also if it is lost.");
        HolePuncher x = Check.network("ht002(hh)t000(h)");
        x.send(2, 500, 5, 1);
        Check.due("the reason 1", x.count(6), 1);
        Check.due("a mapping", x.translator(1, 7), 1);
        x.send(2, 501, 4, 1);
        Check.due("the reason 2", x.count(7), 1);
        Check.due("a mapping", x.translator(1, 7), 2);
        x.send(2, 502, 1, 1);
        Check.due("the reason 4", x.count(9), 1);
        Check.due("a mapping", x.translator(1, 7), 3);
        x.pass(5);
        x.send(2, 500, 4, 1);
        Check.due("the reason 2 again", x.count(7), 2);
        Check.due("a contact more", x.mapping(1, 0, 6), 2);
        Check.due("the time", x.mapping(1, 0, 5), 60);
        HolePuncher y = Check.network("t000(h)t020(h)h");
        y.send(3, 500, 4, 1);
        y.send(1, 500, 2, 500);
        Check.due("the reason 3", y.count(8), 1);
        Check.due("a mapping", y.translator(0, 7), 1);
        Check.due("its contact", y.send(3, 500, 0, 500), 1);
    }

    private static void latestDelivery() {
        Check.sentence("Each host keeps its latest delivery: the source endpoint, and the port at which it was delivered.");
        HolePuncher x = Check.network("hht000(h)");
        for (int what = 4; what <= 6; what++) {
            Check.due("node(0, " + what + ") at first", x.node(0, what), NONE);
        }
        x.send(1, 11, 0, 12);
        x.send(3, 13, 0, 14);
        Check.due("the latest node", x.node(0, 4), 2);
        Check.due("the latest port", x.node(0, 5), 13);
        Check.due("at the latest port", x.node(0, 6), 14);
        x.send(0, 9, 1, 8);
        Check.due("a packet that it sends is none", x.node(0, 5), 13);
        x.send(1, 9, 3, 8);
        x.send(1, 9, 2, 8);
        x.ifSent(1, 9, 0, 8);
        Check.due("nor are lost ones, nor is a question", x.node(0, 5), 13);
        x.pass(1000);
        Check.due("it is kept", x.node(0, 5), 13);
        Check.due("that of another host is its own", x.node(1, 5), 9);
    }

    private static void sendReturns() {
        Check.sentence("Returns the host to which it was delivered; if it was lost, 0 minus the reason.");
        HolePuncher x = Check.network("ht020(h)h");
        Check.due("delivered to the host 0", x.send(3, 1, 0, 1), 0);
        Check.due("it is not lost", x.count(5), 1);
        x.send(2, 500, 0, 1);
        Check.due("delivered to the host behind the translator", x.send(0, 1, 1, 500), 2);
        Check.due("reason 1", x.send(0, 1, 2, 500), -1);
        Check.due("reason 2", x.send(0, 1, 1, 501), -2);
        Check.due("reason 3", x.send(3, 1, 1, 500), -3);
        Check.due("reason 4", x.send(2, 500, 1, 500), -4);
        HolePuncher y = Check.network("ht200(h)");
        y.send(2, 9999, 0, 1);
        Check.due("reason 5", y.send(2, 9999, 0, 2), -5);
        for (int reason = 1; reason <= 4; reason++) {
            Check.due("lost for the reason " + reason, x.count(5 + reason), 1);
        }
        Check.due("lost for the reason 5", y.count(10), 1);
    }

    private static void reply() {
        Check.sentence("Lets a host answer its latest delivery: it sends from the port at which that was delivered to its "
                + "source endpoint.");
        HolePuncher x = Check.network("ht021(h)h");
        x.send(2, 9999, 0, 1);
        Check.due("through the translator", x.reply(0), 2);
        Check.due("at the port of the host", x.node(2, 6), 9999);
        Check.due("from the port", x.node(2, 5), 1);
        Check.due("the answer of the answer", x.reply(2), 0);
        Check.due("the source is the same", x.node(0, 4) * 10000 + x.node(0, 5), 11000);
        x.send(3, 1, 0, 9999);
        Check.due("the latest alone", x.reply(0), 3);
        Check.due("from the port", x.node(3, 5), 9999);
        x.send(0, 7, 0, 8);
        Check.due("to itself", x.reply(0), 0);
        Check.due("the ports change sides", x.node(0, 5) * 10000 + x.node(0, 6), 80007);
        Check.due("to itself again", x.reply(0), 0);
        Check.due("sent", x.count(4), 8);
        Check.due("delivered", x.count(5), 8);
    }

    private static void replyLost() {
        Check.sentence("Lets a host answer its latest delivery. Returns as send.");
        HolePuncher x = Check.network("ht000(h)");
        x.send(2, 500, 0, 1);
        x.pass(60);
        Check.due("at the last tick", x.reply(0), 2);
        x.pass(1);
        Check.due("then the mapping is dead", x.reply(0), -2);
        Check.due("the delivery stays", x.reply(0), -2);
        HolePuncher y = Check.network("ht220(h)h");
        y.send(2, 500, 0, 1);
        y.save();
        y.send(3, 5, 0, 6);
        y.restore();
        Check.due("the delivery of the saved state", y.reply(0), 2);
        HolePuncher z = Check.network("t200(hh)h");
        z.setNumber(0, 2, 1);
        z.send(2, 600, 3, 1);
        z.send(1, 500, 0, 600);
        z.setNumber(0, 2, 0);
        Check.due("a hairpin that is not allowed any more", z.reply(2), -4);
        HolePuncher w = Check.network("ht200(h)h");
        w.send(2, 500, 0, 1);
        w.send(0, 1, 1, 500);
        for (int port = 2; port <= 8; port++) {
            w.send(2, 500, 0, port);
        }
        w.send(3, 4, 1, 500);
        Check.due("no room for the answer", w.reply(2), -5);
        Check.due("a mapping for it is not there", w.timeLeft(2, 500, 3, 4), NONE);
        Check.refuses("a host without a delivery", w, STATE, () -> w.reply(3));
    }

    private static void keepAliveEdges() {
        Check.sentence("interval: how many ticks pass after each packet, 1 to 1000; many: how many packets, 1 to 20");
        int[][] rows = {{1, 1}, {1, 20}, {1000, 1}, {1000, 20}};
        for (int[] row : rows) {
            HolePuncher x = Check.network("ht001(h)");
            Check.due("delivered", x.keepAlive(2, 9999, 0, 1, row[0], row[1]), row[1]);
            Check.due("the tick", x.count(2), row[0] * row[1]);
            Check.due("sent", x.count(4), row[1]);
            Check.due("new mappings", x.translator(1, 8) - 1000, row[0] > 60 ? row[1] : 1);
            Check.due("mappings that live", x.count(3), row[0] > 60 ? 0 : 1);
        }
        HolePuncher y = Check.network("ht001(h)");
        y.keepAlive(2, 500, 0, 1, 60, 3);
        Check.due("ticks pass after the last one too", y.mapping(1, 0, 5), 0);
        Check.due("the first is sent before a tick passes", y.count(2), 180);
    }

    private static void keepAliveReturns() {
        Check.sentence("Sends several packets from a host to the same endpoint; after each of them some ticks pass. "
                + "Returns how many packets were delivered.");
        HolePuncher x = Check.network("ht000(h)");
        Check.due("all are lost", x.keepAlive(0, 1, 2, 1, 1, 20), 0);
        Check.due("lost for the reason 1", x.count(6), 20);
        x.send(2, 500, 0, 1);
        Check.due("until the mapping dies", x.keepAlive(0, 1, 1, 500, 20, 20), 4);
        Check.due("lost for the reason 2", x.count(7), 16);
        x.send(2, 500, 0, 1);
        x.setNumber(1, 3, 1);
        Check.due("each refreshes it", x.keepAlive(0, 1, 1, 500, 60, 20), 20);
        Check.due("the mapping lives", x.mapping(1, 0, 5), 0);
        Check.due("to the host 0 is delivered too", x.keepAlive(0, 1, 0, 1, 1, 20), 20);
        HolePuncher y = Check.network("ht201(h)");
        for (int port = 1; port <= 8; port++) {
            y.send(2, 500, 0, port);
        }
        Check.due("lost until there is room", y.keepAlive(2, 500, 0, 9, 10, 10), 3);
        Check.due("lost for the reason 5", y.count(10), 7);
    }

    private static void ifSentAnswers() {
        Check.sentence("Returns what send would return.");
        int[][] packets = {{2, 500, 0, 1}, {0, 1, 2, 1}, {0, 1, 1, 9}, {0, 9, 1, 0}, {7, 1, 4, 1}, {6, 500, 0, 9},
            {3, 500, 0, 2}, {0, 1, 0, 1}, {7, 9999, 6, 1}, {7, 9999, 5, 9999}, {6, 9999, 5, 9999}, {6, 1, 1, 1}};
        for (int[] packet : packets) {
            HolePuncher x = Unchanged.rich();
            int remotePort = packet[3] == 0 ? x.mapping(1, 0, 2) : packet[3];
            int first = x.ifSent(packet[0], packet[1], packet[2], remotePort);
            Check.due("asked twice", x.ifSent(packet[0], packet[1], packet[2], remotePort), first);
            Check.due("send", x.send(packet[0], packet[1], packet[2], remotePort), first);
        }
        HolePuncher y = Check.network("ht201(h)");
        for (int port = 1; port <= 7; port++) {
            y.send(2, 500, 0, port);
        }
        for (int port = 8; port <= 20; port++) {
            Check.due("room for one more", y.ifSent(2, 500, 0, port), 0);
        }
        y.send(2, 500, 0, 8);
        Check.due("no room", y.ifSent(2, 500, 0, 9), -5);
        HolePuncher z = Check.network("t001(h)h");
        z.setNumber(0, 2, 1);
        Check.due("to the port that it would get", z.ifSent(1, 500, 0, 1000), 1);
        Check.due("to the port behind it", z.ifSent(1, 500, 0, 1001), -2);
    }

    private static void ifSentChangesNothing() {
        Check.sentence("Nothing is changed.");
        Unchanged rich = new Unchanged("with 8 nodes", Unchanged::rich);
        Unchanged full = new Unchanged("with 10 nodes", Unchanged::full);
        Unchanged last = new Unchanged("at the tick 100000", () -> Unchanged.richAt(100000));
        for (Unchanged state : new Unchanged[] {rich, full, last}) {
            state.due(0, "a new random port", x -> x.ifSent(2, 600, 0, 1));
            state.due(0, "a new contact", x -> x.ifSent(3, 500, 0, 1));
            state.due(0, "through two translators", x -> x.ifSent(6, 600, 0, 1));
            state.due(-1, "the reason 1", x -> x.ifSent(6, 600, 2, 1));
            state.due(-2, "the reason 2", x -> x.ifSent(0, 1, 4, 9));
            state.due(-3, "the reason 3", x -> x.ifSent(0, 9, 1, x.mapping(1, 0, 2)));
            state.due(-4, "the reason 4", x -> x.ifSent(7, 600, 4, 1));
            state.due(7, "a delivery", x -> x.ifSent(7, 1, 7, 1));
        }
    }
}
