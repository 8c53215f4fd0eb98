import java.math.BigInteger;

/** The boundary cases of the promises 18 to 25, the questions; and the last calls of an object. */
public final class QuestionBoundsTest {
    private static final int NONE = HolePuncher.NONE;

    public static void main(String[] args) {
        countsOfNothing();
        countsOfNodes();
        countsOfMappings();
        countsOfPackets();
        countOfSaved();
        nodeNet();
        nodeDepth();
        nodeHosts();
        nodeDelivery();
        translatorNumbers();
        mappingEndpoints();
        mappingTime();
        mappingContacts();
        timeLeftNone();
        timeLeftLeast();
        timeLeftMissing();
        common();
        delivery();
        digestStart();
        digestOverflow();
        digestTellsAll();
        questionsChangeNothing();
        lastCall();
        Check.end();
    }

    private static void countsOfNothing() {
        Check.sentence("what: 0: nodes; 1: hosts; 2: the tick; .. 11: 1 if a state is saved, else 0: of nothing");
        HolePuncher x = new HolePuncher();
        for (int what = 0; what <= 11; what++) {
            Check.due("count(" + what + ")", x.count(what), 0);
        }
    }

    private static void countsOfNodes() {
        Check.sentence("what: 0: nodes; 1: hosts; 2: the tick");
        HolePuncher x = Check.network("hhhhhhhhhh");
        Check.due("ten nodes", x.count(0), 10);
        Check.due("ten hosts", x.count(1), 10);
        HolePuncher y = Check.network("t000(t000(t000()))");
        Check.due("three nodes", y.count(0), 3);
        Check.due("no host", y.count(1), 0);
        HolePuncher z = Check.network("t000(t000(t000(h)h)h)h");
        Check.due("seven nodes", z.count(0), 7);
        Check.due("hosts of all nets", z.count(1), 4);
        Check.passTo(z, 100000);
        Check.due("the greatest tick", z.count(2), 100000);
    }

    private static void countsOfMappings() {
        Check.sentence("what: 3: mappings of all translators");
        HolePuncher x = new HolePuncher();
        for (int i = 0; i < 9; i++) {
            x.addTranslator(i - 1, 2, 0, i % 3);
        }
        x.addHost(8);
        for (int port = 1; port <= 9; port++) {
            x.send(9, 500, 0, port);
            Check.due("nine for each packet", x.count(3), 9 * Math.min(port, 8));
        }
        Check.due("the ninth packet", x.count(10), 1);
        Check.due("all of them die", x.pass(61), 72);
        Check.due("none is left", x.count(3), 0);
    }

    private static void countsOfPackets() {
        Check.sentence("what: 4: packets that were sent; 5: those that were delivered; 6 to 10: those that were lost for "
                + "the reason 1 to 5");
        HolePuncher x = Check.network("ht220(h)h");
        for (int i = 1; i <= 5; i++) {
            x.begin();
            Check.type(x, "ht220(h)h");
            x.load();
            x.send(2, 9999, 0, 1);
            Check.due("the reason", lose(x, i), -i);
            for (int what = 6; what <= 10; what++) {
                Check.due("count(" + what + ")", x.count(what), what == 5 + i ? 1 : 0);
            }
            Check.due("sent", x.count(4), 2);
            Check.due("delivered", x.count(5), 1);
        }
        x.keepAlive(3, 1, 2, 1, 1, 20);
        Check.due("those of keepAlive are counted", x.count(4), 22);
        Check.due("lost for the reason 1", x.count(6), 20);
        x.punch(2, 3, 0, true);
        Check.due("those of punch are counted", x.count(4), 28);
        x.reply(3);
        Check.due("that of reply is counted", x.count(4), 29);
        x.ifSent(0, 1, 0, 1);
        x.timeLeft(0, 1, 0, 1);
        Check.due("those of questions are not", x.count(4), 29);
        HolePuncher y = Check.network("h");
        for (int i = 0; i < 400; i++) {
            y.keepAlive(0, 1, 0, 1, 1, 20);
        }
        Check.due("many packets", y.count(4), 8000);
        Check.due("all delivered", y.count(5), 8000);
    }

    /** The host 2 has a mapping at 9999 in the translator 1. */
    private static int lose(HolePuncher x, int reason) {
        switch (reason) {
            case 1: return x.send(0, 1, 2, 1);
            case 2: return x.send(0, 1, 1, 9998);
            case 3: return x.send(0, 2, 1, 9999);
            case 4: return x.send(2, 1, 1, 9999);
            default: return x.send(2, 9999, 0, 2);
        }
    }

    private static void countOfSaved() {
        Check.sentence("what: 11: 1 if a state is saved, else 0");
        HolePuncher x = Check.network("h");
        Check.due("after load", x.count(11), 0);
        x.save();
        Check.due("after save", x.count(11), 1);
        x.restore();
        Check.due("after restore", x.count(11), 1);
        x.save();
        Check.due("after another save", x.count(11), 1);
        x.begin();
        Check.due("after begin", x.count(11), 0);
        x.save();
        x.append('h');
        x.load();
        Check.due("after another load", x.count(11), 0);
    }

    private static void nodeNet() {
        Check.sentence("what: 0: 1 if it is a translator, 0 if it is a host; 1: the net in which it is");
        HolePuncher x = Check.network("t000(ht000(h))h");
        int[][] want = {{1, NONE}, {0, 0}, {1, 0}, {0, 2}, {0, NONE}};
        for (int i = 0; i < want.length; i++) {
            Check.due("the kind of " + i, x.node(i, 0), want[i][0]);
            Check.due("the net of " + i + ", where 0 is not NONE", x.node(i, 1), want[i][1]);
        }
    }

    private static void nodeDepth() {
        Check.sentence("what: 2: through how many translators its packets go out to the public net");
        HolePuncher x = new HolePuncher();
        for (int i = 0; i < 9; i++) {
            x.addTranslator(i - 1, 0, 0, 0);
            Check.due("of the translator " + i, x.node(i, 2), i);
        }
        x.addHost(8);
        Check.due("of the host in the innermost net", x.node(9, 2), 9);
        HolePuncher y = Check.network("ht000()");
        Check.due("of a host in the public net", y.node(0, 2), 0);
        Check.due("of a translator in the public net", y.node(1, 2), 0);
    }

    private static void nodeHosts() {
        Check.sentence("what: 3: for a translator the number of hosts behind it (in its inner net, and behind the "
                + "translators in it, and so on), for a host 0");
        HolePuncher x = Check.network("t000(hhhhhhhhh)");
        Check.due("nine hosts", x.node(0, 3), 9);
        Check.due("of a host", x.node(9, 3), 0);
        HolePuncher y = Check.network("t000(t000(t000()h)t000(hh)h)ht000()");
        int[] want = {4, 1, 0, 0, 2, 0, 0, 0, 0, 0};
        for (int i = 0; i < want.length; i++) {
            Check.due("behind " + i, y.node(i, 3), want[i]);
        }
        HolePuncher z = new HolePuncher();
        for (int i = 0; i < 9; i++) {
            z.addTranslator(i - 1, 0, 0, 0);
        }
        for (int i = 0; i < 9; i++) {
            Check.due("none yet behind " + i, z.node(i, 3), 0);
        }
        z.addHost(8);
        for (int i = 0; i < 9; i++) {
            Check.due("one behind " + i, z.node(i, 3), 1);
        }
    }

    private static void nodeDelivery() {
        Check.sentence("what: 4: for a host the node of the source endpoint of its latest delivery, 5: the port of it, 6: "
                + "the port at which it was delivered (for 4 to 6 NONE if it has none, or is a translator)");
        HolePuncher x = Check.network("t000(h)hh");
        for (int i = 0; i < 4; i++) {
            for (int what = 4; what <= 6; what++) {
                Check.due("node(" + i + ", " + what + ") at first", x.node(i, what), NONE);
            }
        }
        x.send(1, 9999, 2, 1);
        Check.due("the node 0 is not NONE", x.node(2, 4), 0);
        Check.due("the port of it", x.node(2, 5), 9999);
        Check.due("the port", x.node(2, 6), 1);
        x.send(2, 1, 0, 9999);
        Check.due("in through the translator", x.node(1, 4), 2);
        Check.due("the port of it", x.node(1, 5), 1);
        Check.due("the port", x.node(1, 6), 9999);
        for (int what = 4; what <= 6; what++) {
            Check.due("a translator has none", x.node(0, what), NONE);
            Check.due("another host has none", x.node(3, what), NONE);
        }
    }

    private static void translatorNumbers() {
        Check.sentence("what: 7: the number of its mappings; 8: its counter");
        HolePuncher x = Check.network("ht201(h)t200(h)");
        for (int i = 0; i <= 8; i++) {
            Check.due("mappings", x.translator(1, 7), i);
            Check.due("the counter", x.translator(1, 8), 1000 + i);
            x.send(2, 500, 0, 1 + i);
            x.send(4, 500, 0, 1 + i);
        }
        Check.due("mappings at most", x.translator(1, 7), 8);
        Check.due("the counter stays", x.translator(1, 8), 1008);
        Check.due("the counter of one that does not count", x.translator(3, 8), 1000);
        x.pass(61);
        Check.due("mappings when they are dead", x.translator(1, 7), 0);
        Check.due("the counter when they are dead", x.translator(1, 8), 1008);
    }

    private static void mappingEndpoints() {
        Check.sentence("what: 0: the node of its inner endpoint; 1: the port of it; 2: its outer port; 3: the node of its "
                + "key, NONE if it has none; 4: the port of its key, NONE if it has none");
        HolePuncher x = Check.network("ht000(h)t100(h)t200(h)");
        int[][] want = {{NONE, NONE}, {0, NONE}, {0, 9999}};
        for (int rule = 0; rule <= 2; rule++) {
            int translator = 1 + 2 * rule;
            x.send(translator + 1, 9999, 0, 9999);
            Check.due("the inner node", x.mapping(translator, 0, 0), translator + 1);
            Check.due("the inner port", x.mapping(translator, 0, 1), 9999);
            Check.due("the outer port", x.mapping(translator, 0, 2), 9999);
            Check.due("the node of the key", x.mapping(translator, 0, 3), want[rule][0]);
            Check.due("the port of the key", x.mapping(translator, 0, 4), want[rule][1]);
        }
        HolePuncher y = Check.network("t200(t200(h))");
        y.send(2, 1, 0, 1);
        Check.due("the inner node may be a translator", y.mapping(0, 0, 0), 1);
        Check.due("the key may be the translator itself", y.mapping(0, 0, 3), 0);
        Check.due("the least port", y.mapping(0, 0, 4), 1);
    }

    private static void mappingTime() {
        Check.sentence("what: 5: how many ticks it lives at most if it is not used");
        HolePuncher x = Check.network("ht000(h)");
        x.setNumber(1, 1, 1000);
        x.send(2, 500, 0, 1);
        Check.due("the most", x.mapping(1, 0, 5), 1000);
        x.pass(1);
        Check.due("a tick later", x.mapping(1, 0, 5), 999);
        x.pass(999);
        Check.due("the least", x.mapping(1, 0, 5), 0);
        x.send(2, 500, 0, 1);
        Check.due("when it is used", x.mapping(1, 0, 5), 1000);
        x.setNumber(1, 1, 1);
        Check.due("with the least lifetime", x.mapping(1, 0, 5), 1);
        x.pass(1);
        Check.due("at its last tick", x.mapping(1, 0, 5), 0);
        x.setNumber(1, 1, 1000);
        Check.due("with a longer lifetime", x.mapping(1, 0, 5), 999);
    }

    private static void mappingContacts() {
        Check.sentence("what: 6: the number of its contacts");
        HolePuncher x = Check.network("ht000(h)");
        for (int i = 1; i <= 10; i++) {
            x.send(2, 500, 0, i);
            Check.due("contacts", x.mapping(1, 0, 6), Math.min(i, 8));
        }
        x.send(2, 500, 0, 10);
        Check.due("contacts at most", x.mapping(1, 0, 6), 8);
    }

    private static void timeLeftNone() {
        Check.sentence("NONE if the packet would not go out through any translator");
        HolePuncher x = Check.network("ht000(hh)h");
        x.send(2, 500, 0, 1);
        Check.due("from the public net to a host", x.timeLeft(0, 1, 4, 1), NONE);
        Check.due("from the public net to itself", x.timeLeft(0, 1, 0, 1), NONE);
        Check.due("from the public net to a translator", x.timeLeft(0, 1, 1, 500), NONE);
        Check.due("from the public net to a node behind it", x.timeLeft(0, 1, 2, 500), NONE);
        Check.due("within an inner net", x.timeLeft(2, 500, 3, 1), NONE);
        Check.due("to itself in an inner net", x.timeLeft(2, 500, 2, 500), NONE);
        Check.due("out of it", x.timeLeft(2, 500, 0, 1), 60);
    }

    private static void timeLeftLeast() {
        Check.sentence("Returns the least number of ticks that they live if they are not used");
        HolePuncher x = Check.network("ht000(t000(t000(h)))");
        int[][] lifetimes = {{1, 1000, 500}, {1000, 1, 500}, {1000, 500, 1}, {1000, 1000, 1000}, {7, 7, 7}};
        for (int[] row : lifetimes) {
            for (int i = 0; i < 3; i++) {
                x.setNumber(1 + i, 1, row[i]);
            }
            x.send(4, 500, 0, 1);
            int least = Math.min(row[0], Math.min(row[1], row[2]));
            Check.due("the least", x.timeLeft(4, 500, 0, 1), least);
            x.pass(least);
            Check.due("0 is not NONE", x.timeLeft(4, 500, 0, 1), 0);
            x.pass(1);
            Check.due("then one of them is dead", x.timeLeft(4, 500, 0, 1), NONE);
        }
        HolePuncher y = Check.network("t000(t000(h)h)");
        y.setNumber(0, 1, 5);
        y.send(2, 500, 3, 1);
        Check.due("only of those that it would use", y.timeLeft(2, 500, 3, 1), 60);
        y.send(2, 500, 0, 1);
        Check.due("also of a packet that would be lost", y.timeLeft(2, 500, 0, 1), 5);
    }

    private static void timeLeftMissing() {
        Check.sentence("NONE if .. one of the mappings is not there");
        HolePuncher x = Check.network("hht100(t200(h))");
        Check.due("none is there", x.timeLeft(4, 500, 0, 1), NONE);
        x.send(4, 500, 0, 1);
        Check.due("both are there", x.timeLeft(4, 500, 0, 1), 60);
        Check.due("the inner one is not", x.timeLeft(4, 500, 0, 2), NONE);
        Check.due("of another port", x.timeLeft(4, 501, 0, 1), NONE);
        Check.due("of another node", x.timeLeft(4, 500, 1, 1), NONE);
        HolePuncher y = Check.network("hht200(t000(h))");
        y.send(4, 500, 0, 1);
        Check.due("only the outer one is not", y.timeLeft(4, 500, 0, 2), NONE);
        y.setNumber(2, 1, 1);
        y.pass(2);
        Check.due("the outer one is dead", y.timeLeft(4, 500, 0, 1), NONE);
        Check.due("no mapping was made", y.count(3), 1);
    }

    private static void common() {
        Check.sentence("the innermost net in which both are, or in whose inner nets (of its translators, and so on) they "
                + "are. Returns the number of the translator whose inner net it is; NONE for the public net.");
        HolePuncher x = Check.network("t000(t000(ht000(h))t000(h))ht000(h)");
        int[][] want = {
            {0, 0, NONE}, {7, 7, NONE}, {0, 7, NONE}, {0, 1, NONE}, {0, 4, NONE}, {1, 1, 0}, {1, 2, 0}, {1, 4, 0},
            {2, 2, 1}, {2, 3, 1}, {2, 4, 1}, {3, 4, 1}, {4, 4, 3}, {4, 6, 0}, {5, 6, 0}, {6, 6, 5}, {4, 9, NONE},
            {6, 7, NONE}, {8, 9, NONE}, {9, 9, 8}, {8, 8, NONE}};
        for (int[] row : want) {
            Check.due("common(" + row[0] + ", " + row[1] + ")", x.common(row[0], row[1]), row[2]);
            Check.due("common(" + row[1] + ", " + row[0] + ")", x.common(row[1], row[0]), row[2]);
        }
        HolePuncher deep = new HolePuncher();
        for (int i = 0; i < 9; i++) {
            deep.addTranslator(i - 1, 0, 0, 0);
        }
        deep.addHost(8);
        for (int i = 0; i < 9; i++) {
            Check.due("the host in the innermost net and " + i, deep.common(9, i), i - 1);
            Check.due(i + " and the innermost translator", deep.common(i, 8), i - 1);
        }
        Check.due("the host and itself", deep.common(9, 9), 8);
        HolePuncher beside = Check.network("t000(t000(t000(h)))t000(t000(h))");
        Check.due("in nets that meet only outside", beside.common(3, 6), NONE);
        Check.due("their translators", beside.common(2, 5), NONE);
    }

    private static void delivery() {
        Check.sentence("Returns the number of delivered packets, as a double, divided by the number of packets that were "
                + "sent; 0.0 if none was sent.");
        HolePuncher x = Check.network("ht000(h)");
        Check.dueDouble("none was sent", x.delivery(), 0.0);
        x.ifSent(2, 1, 0, 1);
        Check.dueDouble("none was sent, only asked for", x.delivery(), 0.0);
        x.send(0, 1, 2, 1);
        Check.dueDouble("all were lost", x.delivery(), 0.0);
        x.keepAlive(2, 1, 0, 1, 1, 2);
        Check.dueDouble("two of three", x.delivery(), 2.0 / 3.0);
        x.keepAlive(2, 1, 0, 1, 1, 4);
        Check.dueDouble("six of seven", x.delivery(), 6.0 / 7.0);
        x.begin();
        Check.dueDouble("after begin", x.delivery(), 0.0);
        x.addHost(NONE);
        x.keepAlive(0, 1, 0, 1, 1, 20);
        Check.dueDouble("all were delivered", x.delivery(), 1.0);
        x.save();
        x.addTranslator(NONE, 0, 0, 0);
        x.send(0, 1, 1, 1);
        Check.dueDouble("twenty of twenty-one", x.delivery(), 20.0 / 21.0);
        x.restore();
        Check.dueDouble("after restore", x.delivery(), 1.0);
    }

    private static void digestStart() {
        Check.sentence("The hash starts at 1973.");
        HolePuncher x = new HolePuncher();
        Check.due("of nothing: 12 counts and the length of the buffer", x.digest(), Check.hash(new long[13]));
        x.append(126);
        Check.due("of one character", x.digest(), Check.hash(0, 0, 0, 0, 0, 0, 0, 0, 0, 0, 0, 0, 1, 126));
        x.clearBuffer();
        Check.due("of an empty buffer again", x.digest(), new HolePuncher().digest());
    }

    private static long wrapped(BigInteger start, int... values) {
        BigInteger hash = start;
        for (int value : values) {
            hash = hash.multiply(BigInteger.valueOf(31)).add(BigInteger.valueOf(value));
        }
        return hash.longValue();
    }

    private static void digestOverflow() {
        Check.sentence("the hash becomes 31 * hash + v, in long arithmetic with overflow");
        HolePuncher x = new HolePuncher();
        int[] values = new int[13 + 40];
        values[12] = 40;
        for (int i = 0; i < 40; i++) {
            int code = i % 2 == 0 ? 126 : 33;
            x.append(code);
            values[13 + i] = code;
        }
        Check.due("of 40 characters", x.digest(), wrapped(BigInteger.valueOf(1973), values));
        HolePuncher y = Check.network("h");
        Check.passTo(y, 100000);
        Check.due("of the greatest tick and of values below 0", y.digest(), wrapped(BigInteger.valueOf(1973),
                1, 1, 100000, 0, 0, 0, 0, 0, 0, 0, 0, 0, 0, NONE, 0, 0, NONE, NONE, NONE, 0));
    }

    /** The digest from the other questions, for a state that has everything. */
    private static long digestByQuestions(HolePuncher x, String buffer) {
        long hash = 1973;
        for (int what = 0; what <= 11; what++) {
            hash = 31 * hash + x.count(what);
        }
        for (int i = 0; i < x.count(0); i++) {
            for (int what = 0; what <= 6; what++) {
                hash = 31 * hash + x.node(i, what);
            }
            int mappings = x.node(i, 0) == 1 ? x.translator(i, 7) : 0;
            for (int what = 0; x.node(i, 0) == 1 && what <= 8; what++) {
                hash = 31 * hash + x.translator(i, what);
            }
            for (int value = 0; value < 7 * mappings; value++) {
                hash = 31 * hash + x.mapping(i, value / 7, value % 7);
            }
        }
        hash = 31 * hash + buffer.length();
        for (int i = 0; i < buffer.length(); i++) {
            hash = 31 * hash + buffer.charAt(i);
        }
        return hash;
    }

    private static void digestTellsAll() {
        Check.sentence("The values are: count(0) to count(11); for each node its properties ..; the length of the buffer "
                + "and each of its character codes.");
        HolePuncher x = Unchanged.full();
        Check.due("ten nodes", x.digest(), digestByQuestions(x, "t000(h"));
        HolePuncher y = Unchanged.richAt(100000);
        Check.due("the greatest tick", y.digest(), digestByQuestions(y, "t000(h"));
        HolePuncher z = Check.network("t201(t202(h))");
        for (int port = 1; port <= 8; port++) {
            z.send(2, 500, 0, port);
        }
        Check.type(z, "!".repeat(40));
        Check.due("all mappings and a full buffer", z.digest(), digestByQuestions(z, "!".repeat(40)));
    }

    private static void questionsChangeNothing() {
        Check.sentence("Questions answer, and change nothing");
        Unchanged rich = new Unchanged("with 8 nodes", Unchanged::rich);
        rich.due(8, "count(0)", x -> x.count(0));
        rich.due(1, "count(11)", x -> x.count(11));
        rich.due(2, "node(4, 3)", x -> x.node(4, 3));
        rich.due(70, "translator(4, 4)", x -> x.translator(4, 4));
        rich.due(2, "mapping(5, 0, 6)", x -> x.mapping(5, 0, 6));
        rich.due(58, "timeLeft", x -> x.timeLeft(3, 500, 0, 2));
        rich.due(NONE, "timeLeft of what is not there", x -> x.timeLeft(6, 700, 0, 2));
        rich.due(4, "common(6, 7)", x -> x.common(6, 7));
        rich.due(6, "firstError()", HolePuncher::firstError);
        long digest = Unchanged.rich().digest();
        rich.due(digest, "digest()", HolePuncher::digest);
        long bits = Double.doubleToRawLongBits(Unchanged.rich().delivery());
        rich.due(bits, "delivery()", x -> Double.doubleToRawLongBits(x.delivery()));
    }

    private static void lastCall() {
        Check.sentence("An object is used for at most 512 calls after it has been made");
        HolePuncher x = new HolePuncher();
        x.addHost(NONE);
        for (int i = 2; i < 511; i++) {
            x.keepAlive(0, 1, 0, 1, 1, 20);
        }
        Check.due("the call 511", x.save(), 20 * 509);
        Check.due("the call 512", x.count(4), 20 * 509);
    }
}
