/** The boundary cases of the paragraph Going out: which mapping is used, its port, and its contacts. */
public final class PortBoundsTest {
    private static final int NONE = HolePuncher.NONE;

    public static void main(String[] args) {
        sameMapping();
        keptPort();
        keptPortTaken();
        keptPortNone();
        keptPortFreed();
        keptPortOfTranslator();
        counterFirst();
        counterSteps();
        counterWraps();
        counterWrapsExactly();
        counterTaken();
        randomFirst();
        randomTaken();
        noRoom();
        noRoomFurtherOut();
        latestUse();
        contactsNotTwice();
        contactsEight();
        contactsNewMapping();
        sourceOutside();
        Check.end();
    }

    private static void sameMapping() {
        Check.sentence("the mapping with the inner endpoint s and the key for d is used. If there is none, a new one is "
                + "made");
        HolePuncher x = Check.network("hht101(hh)");
        x.send(3, 500, 0, 1);
        x.send(3, 500, 0, 1);
        x.send(3, 500, 0, 2);
        Check.due("the same endpoint and key", x.translator(2, 7), 1);
        x.send(3, 501, 0, 1);
        Check.due("another port inside", x.translator(2, 7), 2);
        x.send(4, 500, 0, 1);
        Check.due("another node inside", x.translator(2, 7), 3);
        x.send(3, 500, 1, 1);
        Check.due("another key", x.translator(2, 7), 4);
        Check.due("the counter grew for the new ones alone", x.translator(2, 8), 1004);
        int[][] inner = {{3, 500}, {3, 501}, {4, 500}, {3, 500}};
        for (int i = 0; i < 4; i++) {
            Check.due("the inner node", x.mapping(2, i, 0), inner[i][0]);
            Check.due("the inner port", x.mapping(2, i, 1), inner[i][1]);
            Check.due("the outer port", x.mapping(2, i, 2), 1000 + i);
        }
    }

    private static void keptPort() {
        Check.sentence("0 (keeping): the port of s");
        for (int port : new int[] {1, 2, 500, 1000, 9998, 9999}) {
            HolePuncher x = Check.network("ht000(h)");
            Check.due("a packet", x.send(2, port, 0, 1), 0);
            Check.due("the outer port", x.mapping(1, 0, 2), port);
            Check.due("as the host sees it", x.node(0, 5), port);
            Check.due("the counter is not used", x.translator(1, 8), 1000);
        }
    }

    private static void keptPortTaken() {
        Check.sentence("or, if a mapping of this translator has it as its outer port, the least greater port that none "
                + "has");
        HolePuncher x = Check.network("ht200(hh)t200(h)");
        x.send(2, 500, 0, 1);
        x.send(2, 501, 0, 1);
        x.send(2, 503, 0, 1);
        x.send(5, 502, 0, 1);
        x.send(3, 500, 0, 1);
        Check.due("the gap", x.mapping(1, 3, 2), 502);
        x.send(3, 500, 0, 2);
        Check.due("behind all of them", x.mapping(1, 4, 2), 504);
        x.send(3, 504, 0, 2);
        Check.due("its own port was taken by another", x.mapping(1, 5, 2), 505);
        x.send(3, 499, 0, 2);
        Check.due("a lower port is kept", x.mapping(1, 6, 2), 499);
        x.send(2, 499, 0, 2);
        Check.due("over seven taken ports", x.mapping(1, 7, 2), 506);
        HolePuncher y = Check.network("ht200(h)");
        y.send(2, 1, 0, 1);
        y.send(2, 1, 0, 2);
        Check.due("from the port 1 on", y.mapping(1, 1, 2), 2);
    }

    private static void keptPortNone() {
        Check.sentence("the least greater port that none has .. or there is no such port, the packet is lost for the "
                + "reason 5");
        HolePuncher x = Check.network("ht200(h)");
        x.send(2, 9998, 0, 1);
        x.send(2, 9998, 0, 2);
        Check.due("9999 is a greater port", x.mapping(1, 1, 2), 9999);
        Check.due("no port above 9998", x.send(2, 9998, 0, 3), -5);
        Check.due("no port above 9999", x.send(2, 9999, 0, 1), -5);
        Check.due("lost for the reason 5", x.count(10), 2);
        Check.due("mappings", x.translator(1, 7), 2);
        Check.due("the contacts of the others", x.mapping(1, 0, 6) + x.mapping(1, 1, 6), 2);
        Check.due("a lower port is not taken for it, but is free", x.send(2, 9997, 0, 3), 0);
        Check.due("its port", x.mapping(1, 2, 2), 9997);
        HolePuncher y = Check.network("ht200(h)");
        y.send(2, 9999, 0, 1);
        Check.due("9999 alone is taken", y.send(2, 9999, 0, 2), -5);
        Check.due("the mapping itself is used", y.send(2, 9999, 0, 1), 0);
    }

    private static void keptPortFreed() {
        Check.sentence("the least greater port that none has: a dead mapping has none");
        HolePuncher x = Check.network("ht200(h)");
        x.send(2, 9999, 0, 1);
        x.pass(60);
        Check.due("it is taken until its last tick", x.send(2, 9999, 0, 2), -5);
        x.pass(1);
        Check.due("then it is free", x.send(2, 9999, 0, 2), 0);
        x.setNumber(1, 1, 1);
        x.pass(1);
        Check.due("taken", x.ifSent(2, 9999, 0, 3), -5);
        x.pass(1);
        Check.due("free", x.ifSent(2, 9999, 0, 3), 0);
    }

    private static void keptPortOfTranslator() {
        Check.sentence("the port of s: s is the translator further in");
        HolePuncher x = Check.network("ht000(t001(h)h)");
        x.send(4, 1000, 0, 1);
        x.send(3, 500, 0, 1);
        Check.due("the inner translator's port", x.mapping(2, 0, 2), 1000);
        Check.due("the inner node outside", x.mapping(1, 1, 0), 2);
        Check.due("the inner port outside", x.mapping(1, 1, 1), 1000);
        Check.due("1000 is taken there", x.mapping(1, 1, 2), 1001);
    }

    private static void counterFirst() {
        Check.sentence("1 (counting): the translator has a counter, 1000 at first");
        HolePuncher x = Check.network("ht001(h)t001(h)");
        Check.due("the counter", x.translator(1, 8), 1000);
        x.send(2, 1, 0, 1);
        Check.due("the first port", x.mapping(1, 0, 2), 1000);
        Check.due("each translator has its own", x.translator(3, 8), 1000);
        x.send(4, 1000, 0, 1);
        Check.due("its first port", x.mapping(3, 0, 2), 1000);
    }

    private static void counterSteps() {
        Check.sentence("then it is the outer port, and grows by the step once more");
        for (int step = 1; step <= 9; step++) {
            HolePuncher x = Check.network("ht201(h)");
            x.setNumber(1, 0, step);
            for (int i = 0; i < 8; i++) {
                x.send(2, 500, 0, 1 + i);
                Check.due("the port", x.mapping(1, i, 2), 1000 + i * step);
                Check.due("the counter", x.translator(1, 8), 1000 + (i + 1) * step);
            }
        }
    }

    /**
     * A chain whose outer translator 0 needs a new mapping for each packet of the host 2, as the mapping of
     * the inner one, 1, dies meanwhile; the host 3 is behind the outer one alone.
     */
    private static HolePuncher chain(int lifetime) {
        HolePuncher x = Check.network("t001(t001(h)h)");
        x.setNumber(0, 1, lifetime);
        x.setNumber(0, 2, 1);
        x.setNumber(0, 3, 1);
        x.setNumber(1, 1, 1);
        return x;
    }

    /** Packets to these ports in turn until the counter of the translator 0 is at a number. */
    private static void climb(HolePuncher x, int counter, int batch, int... remotePorts) {
        int turn = 0;
        int left = counter - x.translator(0, 8);
        x.setNumber(0, 0, 9);
        while (left >= 9) {
            int many = Math.min(batch, left / 9);
            x.keepAlive(2, 500, 0, remotePorts[turn % remotePorts.length], 2, many);
            left -= 9 * many;
            turn++;
        }
        if (left > 0) {
            x.setNumber(0, 0, left);
            x.keepAlive(2, 500, 0, remotePorts[turn % remotePorts.length], 2, 1);
        }
        Check.due("the counter", x.translator(0, 8), counter);
    }

    private static void counterWraps() {
        Check.sentence("Whenever it becomes greater than 9999 by growing, it becomes 1000.");
        for (int step = 1; step <= 9; step += 4) {
            HolePuncher x = chain(5);
            climb(x, 9999 - step, 20, 1);
            x.setNumber(0, 0, step);
            x.send(3, 600, 0, 1);
            Check.due("9999 is not greater", x.translator(0, 8), 9999);
            x.send(3, 601, 0, 1);
            int last = x.translator(0, 7) - 1;
            Check.due("9999 is a port", x.mapping(0, last, 2), 9999);
            Check.due("with the step " + step + " it becomes 1000", x.translator(0, 8), 1000);
            x.send(3, 602, 0, 1);
            Check.due("then 1000 is a port again", x.mapping(0, last + 1, 2), 1000);
            Check.due("and the counter goes on", x.translator(0, 8), 1000 + step);
        }
    }

    private static void counterWrapsExactly() {
        Check.sentence("Whenever it becomes greater than 9999 by growing, it becomes 1000: from each port near the end");
        for (int from = 9990; from <= 9999; from++) {
            HolePuncher x = chain(5);
            climb(x, from, 20, 1);
            x.setNumber(0, 0, 9);
            x.send(3, 600, 0, 1);
            Check.due("after " + from, x.translator(0, 8), from + 9 > 9999 ? 1000 : from + 9);
        }
    }

    private static void counterTaken() {
        Check.sentence("As long as a mapping has the counter as its outer port, the counter grows by the step");
        HolePuncher x = chain(5);
        climb(x, 9999, 20, 1);
        x.send(3, 600, 0, 1);
        // The mapping of the host 3 is used inwards until the counter has come round to it.
        climb(x, 9999, 20, 9999);
        int size = x.translator(0, 7);
        Check.due("9999 is taken", x.ifSent(2, 500, 0, 9999), 3);
        Check.due("the mapping there is used", x.send(3, 600, 0, 1), -2);
        Check.due("the counter stays", x.translator(0, 8), 9999);
        x.setNumber(0, 0, 5);
        x.send(3, 700, 0, 1);
        Check.due("over 9999, and so to 1000", x.mapping(0, size, 2), 1000);
        Check.due("the counter behind it", x.translator(0, 8), 1005);
        HolePuncher y = bothTaken();
        int before = y.translator(0, 7);
        Check.due("9999 is taken", y.ifSent(2, 500, 0, 9999), 3);
        Check.due("1000 is taken", y.ifSent(2, 500, 0, 1000), 3);
        y.setNumber(0, 0, 7);
        y.send(3, 700, 0, 1);
        Check.due("over both of them", y.mapping(0, before, 2), 1007);
        Check.due("the counter behind it", y.translator(0, 8), 1014);
    }

    /** Mappings of the host 3 at 9999 and 1000, when the counter is at 9999. */
    private static HolePuncher bothTaken() {
        HolePuncher x = chain(10);
        climb(x, 9999, 20, 1);
        x.setNumber(0, 0, 9);
        x.send(3, 600, 0, 1);
        x.send(3, 601, 0, 1);
        climb(x, 9999, 4, 9999, 1000);
        return x;
    }

    private static int[] randomPorts(long seed, int many) {
        int[] ports = new int[many];
        long z = seed;
        for (int i = 0; i < many; i++) {
            z = (1103515245L * z + 12345L) & 0x7FFFFFFFL;
            ports[i] = (int) (1000 + (z >> 16) % 9000);
        }
        return ports;
    }

    private static void randomFirst() {
        Check.sentence("2 (random): the translator has a random number z, its own node number plus 1 at first");
        for (int number = 0; number <= 8; number++) {
            HolePuncher x = new HolePuncher();
            for (int i = 0; i < number; i++) {
                x.addHost(NONE);
            }
            x.addTranslator(NONE, 2, 0, 2);
            x.addHost(number);
            int[] ports = randomPorts(number + 1, 8);
            for (int i = 0; i < 8; i++) {
                x.send(number + 1, 500, number, 1 + i);
                Check.due("port " + i + " of the translator " + number, x.mapping(number, i, 2), ports[i]);
            }
            Check.due("the counter is not used", x.translator(number, 8), 1000);
        }
        HolePuncher y = Check.network("t202(h)");
        y.send(1, 500, 0, 1);
        y.begin();
        y.addTranslator(NONE, 2, 0, 2);
        y.addHost(0);
        y.send(1, 500, 0, 1);
        Check.due("after begin it is new", y.mapping(0, 0, 2), randomPorts(1, 1)[0]);
    }

    /** The first place at which one of the next seven random ports is the same; -1 if there is none. */
    private static int placeOfRepetition(int[] ports) {
        for (int i = 0; i + 7 < ports.length; i++) {
            for (int j = i + 1; j <= i + 7; j++) {
                if (ports[j] == ports[i]) {
                    return i;
                }
            }
        }
        return -1;
    }

    private static void randomTaken() {
        Check.sentence("again and again, until no mapping has the port");
        int tested = 0;
        for (int number = 0; number <= 8; number++) {
            int[] ports = randomPorts(number + 1, 6000);
            int place = placeOfRepetition(ports);
            if (place >= 0) {
                repeat(number, ports, place);
                tested++;
            }
        }
        Check.isTrue("some random ports come again soon", tested > 0);
    }

    private static void repeat(int number, int[] ports, int place) {
        HolePuncher x = new HolePuncher();
        for (int i = 0; i < number; i++) {
            x.addHost(NONE);
        }
        x.addTranslator(NONE, 2, 0, 2);
        x.addHost(number);
        x.setNumber(number, 1, 1);
        for (int done = 0; done < place; done += 20) {
            x.keepAlive(number + 1, 500, number, 1, 2, Math.min(20, place - done));
        }
        int next = place;
        for (int i = 0; i < 8; i++) {
            x.send(number + 1, 500, number, 1 + i);
            while (isTaken(ports, place, next)) {
                next++;
            }
            Check.due("port " + i + " after " + place, x.mapping(number, i, 2), ports[next]);
            next++;
        }
        Check.isTrue("one port was passed over", next > place + 8);
    }

    private static boolean isTaken(int[] ports, int first, int next) {
        for (int i = first; i < next; i++) {
            if (ports[i] == ports[next]) {
                return true;
            }
        }
        return false;
    }

    private static void noRoom() {
        Check.sentence("If a new mapping is needed, and there are 8 already, or there is no such port, the packet is "
                + "lost for the reason 5.");
        for (int assignment = 0; assignment <= 2; assignment++) {
            HolePuncher x = Check.network("ht20" + assignment + "(h)");
            for (int port = 1; port <= 8; port++) {
                x.send(2, 500, 0, port);
            }
            long digest = x.digest();
            Check.due("the ninth", x.ifSent(2, 500, 0, 9), -5);
            Check.due("nothing else", x.digest(), digest);
            int counter = x.translator(1, 8);
            for (int i = 0; i < 3; i++) {
                Check.due("the ninth", x.send(2, 500, 0, 9), -5);
            }
            Check.due("lost for the reason 5", x.count(10), 3);
            Check.due("not delivered", x.count(5), 8);
            Check.due("the counter", x.translator(1, 8), counter);
            Check.due("no new mapping is needed for an old one", x.send(2, 500, 0, 8), 0);
            x.pass(61);
            x.send(2, 500, 0, 9);
            int[] want = {500, 1008, randomPorts(2, 9)[8]};
            Check.due("the port after the lost ones", x.mapping(1, 0, 2), want[assignment]);
        }
    }

    private static void noRoomFurtherOut() {
        Check.sentence("the packet is lost for the reason 5 .. What a packet has changed on its way stays so, also if it "
                + "is lost.");
        HolePuncher x = Check.network("ht200(t001(h))");
        for (int port = 1; port <= 8; port++) {
            x.send(3, 500, 0, port);
        }
        x.pass(10);
        Check.due("no room outside", x.send(3, 500, 0, 9), -5);
        Check.due("the inner mapping was used", x.mapping(2, 0, 5), 60);
        Check.due("no outer one was", x.mapping(1, 0, 5), 50);
        Check.due("no room outside", x.send(3, 501, 0, 9), -5);
        Check.due("the inner one has a new mapping", x.translator(2, 7), 2);
        Check.due("its counter", x.translator(2, 8), 1002);
    }

    private static void latestUse() {
        Check.sentence("The tick of the latest use of the mapping becomes the present one");
        HolePuncher x = Check.network("ht200(h)");
        x.send(2, 500, 0, 1);
        x.pass(60);
        x.send(2, 500, 0, 2);
        Check.due("another mapping is not used", x.mapping(1, 0, 5), 0);
        x.send(2, 500, 0, 1);
        Check.due("at the last moment", x.mapping(1, 0, 5), 60);
        x.pass(30);
        x.send(2, 500, 0, 1);
        Check.due("half way", x.mapping(1, 0, 5), 60);
        Check.due("of the other one", x.mapping(1, 1, 5), 30);
    }

    private static void contactsNotTwice() {
        Check.sentence("d becomes its latest contact (it is not listed twice).");
        HolePuncher x = Check.network("hht020(h)");
        for (int i = 0; i < 3; i++) {
            x.send(3, 500, 0, 7);
            Check.due("contacts", x.mapping(2, 0, 6), 1);
        }
        x.send(3, 500, 1, 7);
        Check.due("the same port of another node", x.mapping(2, 0, 6), 2);
        x.send(3, 500, 0, 8);
        Check.due("another port of the same node", x.mapping(2, 0, 6), 3);
        x.send(3, 500, 0, 7);
        Check.due("the first again", x.mapping(2, 0, 6), 3);
        for (int port = 11; port <= 15; port++) {
            x.send(3, 500, 0, port);
        }
        Check.due("contacts", x.mapping(2, 0, 6), 8);
        for (int i = 0; i < 2; i++) {
            // Now (1, 7), (0, 8), (0, 7), (0, 11) and so on; each use makes a contact the latest.
            x.send(3, 500, 1, 7);
            Check.due("eight stay eight", x.mapping(2, 0, 6), 8);
        }
        x.send(3, 500, 0, 16);
        Check.due("the oldest is gone, which is (0, 8)", x.send(0, 8, 2, 500), -3);
        Check.due("(0, 7) was later", x.send(0, 7, 2, 500), 3);
        x.send(3, 500, 0, 17);
        Check.due("then (0, 7) is gone", x.send(0, 7, 2, 500), -3);
        Check.due("(1, 7) was made the latest", x.send(1, 7, 2, 500), 3);
    }

    private static void contactsEight() {
        Check.sentence("Only the latest 8 contacts are kept.");
        HolePuncher x = Check.network("ht020(h)");
        for (int port = 1; port <= 20; port++) {
            x.send(2, 500, 0, port);
            Check.due("contacts", x.mapping(1, 0, 6), Math.min(port, 8));
            for (int old = 1; old <= port && port >= 7 && port <= 10; old++) {
                Check.due("contact " + old + " of " + port, x.ifSent(0, old, 1, 500), old > port - 8 ? 2 : -3);
            }
        }
        Check.due("the contact 12", x.send(0, 12, 1, 500), -3);
        Check.due("the contact 13", x.send(0, 13, 1, 500), 2);
        Check.due("the contact 20", x.send(0, 20, 1, 500), 2);
        HolePuncher y = Check.network("hht010(h)");
        y.send(3, 500, 1, 1);
        for (int port = 1; port <= 7; port++) {
            y.send(3, 500, 0, port);
        }
        Check.due("the node of the oldest of eight", y.send(1, 99, 2, 500), 3);
        y.send(3, 500, 0, 8);
        Check.due("the node of a ninth", y.send(1, 99, 2, 500), -3);
    }

    private static void contactsNewMapping() {
        Check.sentence("d becomes its latest contact: a new mapping has no old contacts");
        HolePuncher x = Check.network("ht020(h)");
        for (int port = 1; port <= 8; port++) {
            x.send(2, 500, 0, port);
        }
        x.pass(61);
        x.send(2, 500, 0, 9);
        Check.due("contacts", x.mapping(1, 0, 6), 1);
        for (int port = 1; port <= 8; port++) {
            Check.due("an old contact", x.send(0, port, 1, 500), -3);
        }
        Check.due("the new contact", x.send(0, 9, 1, 500), 2);
        x.send(2, 500, 0, 2);
        Check.due("an old contact that is new again", x.mapping(1, 0, 6), 2);
        HolePuncher y = Check.network("hhhht010(h)");
        for (int node = 0; node <= 2; node++) {
            y.send(5, 500, node, 1);
        }
        y.pass(61);
        y.send(5, 500, 3, 1);
        for (int node = 0; node <= 3; node++) {
            Check.due("the node " + node, y.send(node, 1, 4, 500), node == 3 ? 5 : -3);
        }
    }

    private static void sourceOutside() {
        Check.sentence("The packet goes on in the outer net; its source endpoint is the translator with the outer port "
                + "then.");
        HolePuncher x = Check.network("t001(t001(h)h)h");
        Check.due("to a host in the outer net", x.send(2, 500, 3, 5), 3);
        Check.due("from the inner translator", x.node(3, 4), 1);
        Check.due("at its port", x.node(3, 5), 1000);
        Check.due("the outer one is not used", x.translator(0, 7), 0);
        x.send(3, 500, 4, 5);
        Check.due("to the public net", x.send(2, 500, 4, 5), 4);
        Check.due("from the outer translator", x.node(4, 4), 0);
        Check.due("at its port", x.node(4, 5), 1001);
        Check.due("within the net it is the host itself", x.send(3, 77, 3, 5), 3);
        Check.due("its node", x.node(3, 4), 3);
        Check.due("its port", x.node(3, 5), 77);
    }
}
