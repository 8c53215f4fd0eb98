/** The boundary cases of the paragraph Punching, and of the promise 16. */
public final class PunchBoundsTest {
    private static final int NONE = HolePuncher.NONE;

    public static void main(String[] args) {
        firstPackets();
        firstPacketsPredicted();
        failed();
        failedPredicted();
        targetsInRange();
        targetsOfSamePort();
        targetAboveByCounting();
        rounds();
        heard();
        heardAtOnce();
        notHeard();
        notHeardByThird();
        roundOfSuccess();
        fiveRounds();
        sameNet();
        lastTick();
        Check.end();
    }

    private static void firstPackets() {
        Check.sentence("a sends from p to the port 1 of the server; then b sends from r to the port 1 of the server.");
        HolePuncher x = Check.network("ht220(h)t220(h)");
        x.punch(2, 4, 0, false);
        for (int translator : new int[] {1, 3}) {
            Check.due("the inner port", x.mapping(translator, 0, 1), 500);
            Check.due("the node of the key", x.mapping(translator, 0, 3), 0);
            Check.due("the port of the key", x.mapping(translator, 0, 4), 1);
            Check.due("the next is not the server", x.mapping(translator, 1, 3), 4 - translator);
        }
        Check.due("the server heard b last", x.node(0, 4), 3);
        Check.due("at its port 1", x.node(0, 6), 1);
    }

    private static void firstPacketsPredicted() {
        Check.sentence("With prediction, a sends from p to the port 2 of the server, and then b from r to it.");
        HolePuncher x = Check.network("ht220(h)t220(h)");
        x.punch(2, 4, 0, true);
        for (int translator : new int[] {1, 3}) {
            Check.due("first the port 1", x.mapping(translator, 0, 4), 1);
            Check.due("then the port 2", x.mapping(translator, 1, 4), 2);
            Check.due("from the same port", x.mapping(translator, 1, 1), 500);
            Check.due("the next is not the server", x.mapping(translator, 2, 3), 4 - translator);
        }
        Check.due("the server heard b last", x.node(0, 4) * 10000 + x.node(0, 5), 30501);
        Check.due("at its port 2", x.node(0, 6), 2);
    }

    private static void failed() {
        Check.sentence("If one of these packets is not delivered to the server, punching has failed (the packets after it "
                + "are not sent). Returns 0 if it failed before the rounds");
        HolePuncher x = Check.network("ht000(h)h");
        Check.due("the server is not reached by a", x.punch(0, 3, 2, false), 0);
        Check.due("one packet", x.count(4), 1);
        Check.due("lost for the reason 1", x.count(6), 1);
        Check.due("no tick", x.count(2), 0);
        HolePuncher y = Check.network("t000(hh)h");
        Check.due("the server is reached by a, not by b", y.punch(1, 3, 2, true), 0);
        Check.due("two packets", y.count(4), 2);
        Check.due("one delivered", y.count(5), 1);
        Check.due("the server keeps it", y.node(2, 4), 1);
        Check.due("no tick", y.count(2), 0);
        HolePuncher z = Check.network("ht200(h)h");
        for (int port = 11; port <= 18; port++) {
            z.send(2, 500, 0, port);
        }
        Check.due("no room for a", z.punch(2, 3, 0, false), 0);
        Check.due("one packet more", z.count(4), 9);
        Check.due("no room for b", z.punch(3, 2, 0, false), 0);
        Check.due("two packets more", z.count(4), 11);
        Check.due("lost for the reason 5", z.count(10), 2);
    }

    private static void failedPredicted() {
        Check.sentence("If one of these packets is not delivered to the server, punching has failed: the packets to its "
                + "port 2");
        HolePuncher x = Check.network("ht200(h)h");
        for (int port = 11; port <= 17; port++) {
            x.send(2, 500, 0, port);
        }
        x.save();
        Check.due("no room for the second packet of a", x.punch(2, 3, 0, true), 0);
        Check.due("three packets", x.count(4), 10);
        Check.due("the server heard b last", x.node(0, 4), 3);
        Check.due("no tick", x.count(2), 0);
        x.restore();
        Check.due("no room for the second packet of b", x.punch(3, 2, 0, true), 0);
        Check.due("four packets", x.count(4), 11);
        Check.due("the server heard a last", x.node(0, 4), 3);
        Check.due("at its port 2", x.node(0, 6), 2);
        x.restore();
        Check.due("without prediction the rounds begin", x.punch(3, 2, 0, false), NONE);
        Check.due("five ticks", x.count(2), 5);
    }

    /** Hosts up to a translator with random ports; behind it a host; then a translator that tells keys, and its host. */
    private static HolePuncher randomTranslator(int number, int skipped) {
        HolePuncher x = new HolePuncher();
        for (int i = 0; i < number; i++) {
            x.addHost(NONE);
        }
        x.addTranslator(NONE, 2, 2, 2);
        x.addHost(number);
        x.addTranslator(NONE, 2, 2, 0);
        x.addHost(number + 2);
        // One random port a packet, as the mapping before it is dead.
        x.setNumber(number, 1, 1);
        for (int done = 0; done < skipped; done += 20) {
            x.keepAlive(number + 1, 500, 0, 1, 2, Math.min(20, skipped - done));
        }
        return x;
    }

    private static void targetsInRange() {
        Check.sentence("the port of the target of the other host becomes f + (f - e) if that is from 1 to 9999, "
                + "otherwise f");
        // The number of the translator, random ports before, e, f, and the port of the target.
        int[][] rows = {{2, 3029, 6743, 3372, 1}, {3, 4571, 7336, 3668, 3668},
            {5, 2802, 3007, 6503, 9999}, {1, 2832, 2846, 6423, 6423}};
        for (int[] row : rows) {
            int random = row[0];
            int teller = random + 2;
            for (int order = 0; order < 2; order++) {
                HolePuncher x = randomTranslator(random, row[1]);
                int a = order == 0 ? teller + 1 : random + 1;
                int b = order == 0 ? random + 1 : teller + 1;
                x.save();
                x.send(random + 1, 500, 0, 1);
                x.send(random + 1, 500, 0, 2);
                Check.due("the first port, e", x.mapping(random, 0, 2), row[2]);
                Check.due("the second port, f", x.mapping(random, 1, 2), row[3]);
                x.restore();
                Check.due("punch", x.punch(a, b, 0, true), NONE);
                Check.due("the node of the target", x.mapping(teller, 2, 3), random);
                Check.due("the port of the target", x.mapping(teller, 2, 4), row[4]);
                Check.due("it stayed the target", x.translator(teller, 7), 3);
            }
        }
    }

    private static void targetsOfSamePort() {
        Check.sentence("the port of the target of the other host becomes f + (f - e): f is e");
        HolePuncher x = Check.network("ht020(h)t220(h)");
        Check.due("punch", x.punch(4, 2, 0, true), 2);
        Check.due("the target is f", x.mapping(3, 2, 3) * 10000 + x.mapping(3, 2, 4), 10500);
        HolePuncher y = Check.network("ht001(h)t220(h)");
        y.setNumber(1, 0, 9);
        y.punch(4, 2, 0, true);
        Check.due("the target is f", y.mapping(3, 2, 3) * 10000 + y.mapping(3, 2, 4), 11000);
        HolePuncher z = Check.network("ht221(h)t220(h)");
        z.setNumber(1, 0, 9);
        z.punch(4, 2, 0, true);
        Check.due("the target is f and the step", z.mapping(3, 2, 3) * 10000 + z.mapping(3, 2, 4), 11018);
    }

    /** Counting translators: from 9999 the next port is 1000, so that f + (f - e) is below 1. */
    private static void targetAboveByCounting() {
        Check.sentence("f + (f - e) if that is from 1 to 9999, otherwise f: where the counter ends");
        // The counter before, then the port of the target.
        int[][] rows = {{9997, 9999}, {9998, 9999}, {9999, 1000}};
        for (int[] row : rows) {
            HolePuncher x = Check.network("ht221(h)t220(h)");
            x.setNumber(1, 1, 1);
            x.setNumber(1, 0, 9);
            int left = row[0] - 1000;
            for (; left >= 9; left -= 9 * Math.min(20, left / 9)) {
                x.keepAlive(2, 500, 0, 1, 2, Math.min(20, left / 9));
            }
            x.setNumber(1, 0, 1);
            if (left > 0) {
                x.keepAlive(2, 500, 0, 1, 2, left);
            }
            Check.due("the counter", x.translator(1, 8), row[0]);
            x.punch(4, 2, 0, true);
            Check.due("the target", x.mapping(3, 2, 3) * 10000 + x.mapping(3, 2, 4), 10000 + row[1]);
        }
    }

    private static void rounds() {
        Check.sentence("In a round a sends from p to its target, then b from r to its target, and then the tick grows by "
                + "1.");
        HolePuncher x = Check.network("ht220(h)t220(h)");
        x.pass(7);
        Check.due("punch", x.punch(2, 4, 0, false), NONE);
        Check.due("a tick for each of five rounds", x.count(2), 12);
        HolePuncher y = Check.network("ht020(h)t020(h)");
        y.pass(7);
        // a's first packet is filtered, b's opens the way; in the second round a's passes.
        Check.due("punch", y.punch(2, 4, 0, false), 2);
        Check.due("the tick", y.count(2), 9);
        Check.due("packets: two to the server, two in each round", y.count(4), 6);
        Check.due("only the first of a is lost", y.count(8), 1);
        Check.due("the latest use of a's mapping was the tick 8", y.mapping(1, 0, 5), 59);
        Check.due("the latest use of b's mapping was the tick 8", y.mapping(3, 0, 5), 59);
        Check.due("a's latest delivery", y.node(2, 4) * 10000 + y.node(2, 5), 30500);
        Check.due("b's latest delivery", y.node(4, 4) * 10000 + y.node(4, 5), 10500);
    }

    private static void heard() {
        Check.sentence("When a packet of one of them is delivered to the other one at its port, the other one has heard "
                + "of it, and the target of the other one becomes the source endpoint of this packet.");
        // a's translator has a new port for each remote endpoint; b answers the port that a's packet came from.
        HolePuncher x = Check.network("ht221(h)h");
        Check.due("punch", x.punch(2, 3, 0, false), 1);
        Check.due("b's latest delivery", x.node(3, 4) * 10000 + x.node(3, 5), 11001);
        Check.due("a's latest delivery", x.node(2, 4) * 10000 + x.node(2, 5), 30500);
        Check.due("all packets were delivered", x.count(5), 4);
        // With b first its packet goes to the old port, and is filtered there.
        HolePuncher y = Check.network("ht221(h)h");
        Check.due("punch the other way", y.punch(3, 2, 0, false), 2);
        Check.due("the first one was filtered", y.count(8), 1);
        Check.due("then the new port was known", y.node(2, 4) * 10000 + y.node(2, 5), 30500);
    }

    private static void heardAtOnce() {
        Check.sentence("the target of the other one becomes the source endpoint of this packet: in the same round");
        HolePuncher x = Check.network("ht222(h)t000(h)");
        Check.due("b answers a's packet in the round in which it came", x.punch(2, 4, 0, false), 1);
        Check.due("one round", x.count(4), 4);
        HolePuncher y = Check.network("ht222(h)t000(h)");
        Check.due("also a predicted target", y.punch(2, 4, 0, true), 1);
        Check.due("one round", y.count(4), 6);
    }

    private static void notHeard() {
        Check.sentence("delivered to the other one at its port (p of a, r of b)");
        HolePuncher x = Check.network("ht200(h)h");
        x.send(2, 502, 0, 11);
        Check.due("the predicted port is b's, but not r", x.punch(3, 2, 0, true), 2);
        HolePuncher y = Check.network("ht200(h)h");
        y.send(2, 502, 0, 11);
        Check.due("the predicted port is a's, but not p", y.punch(2, 3, 0, true), 1);
        Check.due("a's own packet told b the true one", y.node(2, 6), 500);
    }

    private static void notHeardByThird() {
        Check.sentence("delivered to the other one: not to a third host");
        HolePuncher x = Check.network("ht200(hh)h");
        for (int port = 11; port <= 13; port++) {
            x.send(3, 500, 0, port);
        }
        x.pass(40);
        x.send(3, 500, 0, 13);
        x.pass(21);
        Check.due("only 502 is taken", x.mapping(1, 0, 2), 502);
        Check.due("the third host has the predicted port", x.punch(4, 2, 0, true), 2);
        Check.due("it got the packet at 500", x.node(3, 6), 500);
        Check.due("from a", x.node(3, 4), 4);
    }

    /** The translator 2 has no room for a mapping between the host 3 and the host 1 until a round. */
    private static HolePuncher roomInRound(int round) {
        HolePuncher x = Check.network("hht200(h)");
        for (int port = 11; port <= 17; port++) {
            x.send(3, 600, 0, port);
        }
        // They die at the tick 61; the first round is at the tick at which the punch begins.
        x.pass(62 - round);
        return x;
    }

    private static void roundOfSuccess() {
        Check.sentence("Punching has succeeded at the end of the round by which both have heard of each other. Returns "
                + "the number of rounds if it succeeded");
        for (int round = 1; round <= 5; round++) {
            HolePuncher x = roomInRound(round);
            Check.due("b's packets find room", x.punch(1, 3, 0, false), round);
            Check.due("the tick", x.count(2), 62);
            Check.due("packets", x.count(4), 7 + 2 + 2 * round);
            Check.due("lost for the reason 5", x.count(10), round - 1);
            HolePuncher y = roomInRound(round);
            Check.due("a's packets find room", y.punch(3, 1, 0, false), round);
            Check.due("the tick", y.count(2), 62);
            Check.due("lost for the reason 5", y.count(10), round - 1);
        }
    }

    private static void fiveRounds() {
        Check.sentence("there are at most 5 rounds. Returns NONE if it did not succeed in 5 rounds");
        HolePuncher x = roomInRound(6);
        Check.due("a sixth round would be needed", x.punch(1, 3, 0, false), NONE);
        Check.due("the tick", x.count(2), 61);
        Check.due("packets", x.count(4), 7 + 2 + 10);
        Check.due("lost for the reason 5", x.count(10), 5);
        HolePuncher y = roomInRound(6);
        Check.due("the other way", y.punch(3, 1, 0, false), NONE);
        Check.due("the tick", y.count(2), 61);
        HolePuncher z = Check.network("ht020(hh)");
        Check.due("with prediction", z.punch(2, 3, 0, true), NONE);
        Check.due("packets", z.count(4), 14);
        Check.due("lost for the reason 4", z.count(9), 10);
    }

    private static void sameNet() {
        Check.sentence("The port of both hosts is 500; a: a host; b: another host; server: a third host");
        HolePuncher x = Check.network("hhh");
        Check.due("three hosts in the public net", x.punch(2, 0, 1, false), 1);
        Check.due("the server at its port 1", x.node(1, 6), 1);
        Check.due("from b's port", x.node(1, 4) * 10000 + x.node(1, 5), 500);
        Check.due("a at its port", x.node(2, 6), 500);
        Check.due("b at its port", x.node(0, 6), 500);
        HolePuncher y = Check.network("t222(hhh)");
        Check.due("three hosts in an inner net", y.punch(1, 2, 3, true), 1);
        Check.due("no mapping", y.count(3), 0);
        Check.due("the server saw the port", y.node(3, 5), 500);
    }

    private static void lastTick() {
        Check.sentence("Throws IllegalStateException if the tick is greater than 99990: up to it all rounds are made");
        HolePuncher x = Check.network("ht020(hh)");
        Check.passTo(x, 99990);
        Check.due("five rounds at 99990", x.punch(2, 3, 0, true), NONE);
        Check.due("the tick", x.count(2), 99995);
        Check.refuses("at 99995", x, IllegalStateException.class, () -> x.punch(2, 3, 0, true));
    }
}
