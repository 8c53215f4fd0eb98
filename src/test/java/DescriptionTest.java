import java.io.IOException;
import java.lang.reflect.Method;
import java.util.Arrays;
import java.util.stream.Collectors;

/** The document from its first line to the end of its Description: every sentence is read and tried. */
public final class DescriptionTest {
    private static final int NONE = HolePuncher.NONE;
    private static final Class<?> INDEX = IndexOutOfBoundsException.class;
    private static final Class<?> ARGUMENT = IllegalArgumentException.class;
    private static final Class<?> STATE = IllegalStateException.class;
    private static Document text;

    public static void main(String[] args) throws IOException {
        text = new Document("HolePuncher", "Promise 1: A new object");
        whatItIs();
        publicFace();
        networks();
        translators();
        mappings();
        goingOut();
        keeping();
        counting();
        random();
        lostOrUsed();
        wayOut();
        arrival();
        wayIn();
        traces();
        punching();
        prediction();
        failure();
        rounds();
        inputText();
        exceptions();
        text.ends();
        Check.end();
    }

    private static void whatItIs() {
        text.reads("HolePuncher");
        text.reads("What it is");
        text.says("A simulation of networks with chains of address translators: translators with rules for "
                + "mappings, filters and ports, timers that let mappings die, packets that go out and in through "
                + "several translators, hairpins, and hosts that punch holes to reach each other, also with "
                + "predicted ports.");
        HolePuncher x = Check.network("ht000(t000(h))");
        Check.due("out through two translators", x.send(3, 500, 0, 1), 0);
        Check.due("and in through them", x.reply(0), 3);
        Check.due("both mappings die", x.pass(61), 2);
        text.says("An object is used for at most 512 calls after it has been made; what later calls answer is "
                + "free.");
        HolePuncher y = new HolePuncher();
        for (int i = 0; i < 255; i++) {
            y.addHost(NONE);
            y.begin();
        }
        y.addHost(NONE);
        Check.due("the 512th call", y.count(0), 1);
    }

    private static void publicFace() {
        text.reads("The public face");
        text.says("[the face]");
        long methods = 0;
        for (String line : text.face) {
            if (line.contains("(") && !line.contains("HolePuncher()")) {
                methods++;
                String plain = line.replaceAll("(int|boolean) \\w+(?=[,)])", "$1").replaceAll("^ *public |;$", "");
                Check.isTrue("the class has " + plain, hasMethod(plain));
            }
        }
        Check.due("methods of the document", methods, 24);
        Check.due("NONE", NONE, -1);
    }

    private static boolean hasMethod(String plain) {
        for (Method method : HolePuncher.class.getMethods()) {
            String thrown = names(method.getExceptionTypes());
            String line = method.getReturnType() + " " + method.getName()
                    + "(" + names(method.getParameterTypes()) + ")" + (thrown.isEmpty() ? "" : " throws " + thrown);
            if (line.equals(plain)) {
                return true;
            }
        }
        return false;
    }

    private static String names(Class<?>[] types) {
        return Arrays.stream(types).map(Class::getSimpleName).collect(Collectors.joining(", "));
    }

    private static void networks() {
        text.reads("Description");
        text.reads("Networks.");
        text.says("There are at most 10 nodes, numbered from 0 in the order in which they were added; each is a "
                + "host or a translator.");
        HolePuncher x = new HolePuncher();
        for (int i = 0; i < 10; i++) {
            Check.due("its number", i % 3 == 0 ? x.addTranslator(NONE, 0, 0, 0) : x.addHost(NONE), i);
            Check.due("its kind", x.node(i, 0), i % 3 == 0 ? 1 : 0);
        }
        Check.refuses("an eleventh host", x, STATE, () -> x.addHost(NONE));
        Check.refuses("an eleventh translator", x, STATE, () -> x.addTranslator(NONE, 0, 0, 0));
        text.says("A translator has an inner net; besides there is the public net.");
        HolePuncher y = new HolePuncher();
        int outer = y.addTranslator(NONE, 0, 0, 0);
        int inside = y.addHost(outer);
        int outside = y.addHost(NONE);
        Check.due("the inner net", y.node(inside, 1), outer);
        Check.due("the public net", y.node(outside, 1), NONE);
        text.says("Each node is in the public net or in the inner net of a translator with a lower number; the "
                + "net in which a translator is is its outer net.");
        Check.refuses("the net of the node itself", y, INDEX, () -> y.addTranslator(3, 0, 0, 0));
        Check.refuses("a host has no inner net", y, INDEX, () -> y.addHost(inside));
        int inner = y.addTranslator(outer, 0, 0, 0);
        Check.due("the outer net", y.node(inner, 1), outer);
        Check.due("its packets leave it for its outer net", y.send(y.addHost(inner), 7, inside, 1), inside);
        Check.due("where they come from the translator", y.node(inside, 4), inner);
        text.says("An endpoint is a node and a port; ports are 1 to 9999.");
        for (int port : new int[] {1, 9999}) {
            Check.due("from the port " + port, y.send(outside, port, outside, 1), outside);
            Check.due("to the port " + port, y.send(outside, 1, outside, port), outside);
        }
        for (int port : new int[] {Integer.MIN_VALUE, -1, 0, 10000, Integer.MAX_VALUE}) {
            Check.refuses("from the port " + port, y, ARGUMENT, () -> y.send(outside, port, outside, 1));
            Check.refuses("to the port " + port, y, ARGUMENT, () -> y.send(outside, 1, outside, port));
        }
        text.says("The tick is 0 at first, and at most 100000.");
        HolePuncher z = new HolePuncher();
        Check.due("at first", z.count(2), 0);
        Check.passTo(z, 100000);
        Check.due("at most", z.count(2), 100000);
        Check.refuses("one tick more", z, STATE, () -> z.pass(1));
    }

    private static void translators() {
        text.reads("Translators.");
        text.says("A translator has a mapping rule, a filter rule and an assignment, each 0 to 2; a step from 1 "
                + "to 9 and a lifetime from 1 to 1000; it can allow hairpins, and it can refresh inwards.");
        HolePuncher x = new HolePuncher();
        for (int rule = 0; rule <= 2; rule++) {
            x.begin();
            x.addTranslator(NONE, rule, (rule + 1) % 3, (rule + 2) % 3);
            Check.due("the mapping rule", x.translator(0, 0), rule);
            Check.due("the filter rule", x.translator(0, 1), (rule + 1) % 3);
            Check.due("the assignment", x.translator(0, 2), (rule + 2) % 3);
        }
        int[] least = {1, 1, 0, 0};
        int[] greatest = {9, 1000, 1, 1};
        for (int what = 0; what <= 3; what++) {
            int number = what;
            x.setNumber(0, what, least[what]);
            Check.due("the least value", x.translator(0, 3 + what), least[what]);
            x.setNumber(0, what, greatest[what]);
            Check.due("the greatest value", x.translator(0, 3 + what), greatest[what]);
            Check.refuses("a lower one", x, ARGUMENT, () -> x.setNumber(0, number, least[number] - 1));
            Check.refuses("a greater one", x, ARGUMENT, () -> x.setNumber(0, number, greatest[number] + 1));
        }
        text.says("At first the step is 1, the lifetime is 60, it allows no hairpins, and does not refresh "
                + "inwards.");
        int[] first = {1, 60, 0, 0};
        int added = x.addTranslator(0, 1, 1, 1);
        for (int what = 0; what <= 3; what++) {
            Check.due("at first", x.translator(added, 3 + what), first[what]);
        }
    }

    private static void mappings() {
        text.reads("Mappings.");
        text.says("A mapping of a translator has an inner endpoint (whose node is in its inner net), an outer "
                + "port, a key, the tick of its latest use, and contacts, which are endpoints.");
        HolePuncher x = Check.network("ht201(t100(h))");
        x.pass(4);
        x.send(3, 77, 0, 88);
        x.pass(6);
        int[] outer = {2, 77, 1000, 0, 88, 54, 1};
        int[] inner = {3, 77, 77, 0, NONE, 54, 1};
        for (int what = 0; what <= 6; what++) {
            Check.due("of the outer one", x.mapping(1, 0, what), outer[what]);
            Check.due("of the inner one", x.mapping(2, 0, what), inner[what]);
        }
        text.says("The key for a remote endpoint is nothing for the mapping rule 0, the remote node for rule 1, "
                + "and the remote endpoint for rule 2.");
        int[][] keys = {{NONE, NONE}, {1, NONE}, {1, 9}};
        int[] made = {1, 2, 3};
        for (int rule = 0; rule <= 2; rule++) {
            HolePuncher y = new HolePuncher();
            y.addHost(NONE);
            y.addHost(NONE);
            y.addTranslator(NONE, rule, 0, 1);
            y.addHost(2);
            y.send(3, 5, 1, 9);
            y.send(3, 5, 1, 8);
            y.send(3, 5, 0, 8);
            Check.due("the key's node", y.mapping(2, 0, 3), keys[rule][0]);
            Check.due("the key's port", y.mapping(2, 0, 4), keys[rule][1]);
            Check.due("one for each key", y.translator(2, 7), made[rule]);
        }
        text.says("A mapping dies, and is removed, as soon as the tick minus that of its latest use is greater "
                + "than the lifetime.");
        HolePuncher z = Check.network("ht000(h)");
        z.send(2, 5, 0, 1);
        Check.due("60 is not greater than 60", z.pass(60), 0);
        Check.due("it is there", z.translator(1, 7), 1);
        Check.due("61 is", z.pass(1), 1);
        Check.due("it is removed", z.translator(1, 7), 0);
        z.send(2, 5, 0, 1);
        z.pass(10);
        z.setNumber(1, 1, 10);
        Check.due("10 is not greater than 10", z.translator(1, 7), 1);
        z.setNumber(1, 1, 9);
        Check.due("10 is greater than 9", z.translator(1, 7), 0);
        text.says("A translator has at most 8 mappings, numbered from 0 in the order in which they were made.");
        HolePuncher w = Check.network("ht001(h)");
        for (int i = 0; i < 8; i++) {
            w.pass(1);
            w.send(2, 100 - i, 0, 1);
        }
        Check.due("a ninth", w.send(2, 92, 0, 1), -5);
        for (int i = 0; i < 8; i++) {
            Check.due("the order", w.mapping(1, i, 1), 100 - i);
        }
        w.pass(55);
        Check.due("the two oldest have died", w.mapping(1, 0, 1), 98);
        w.send(2, 100, 0, 1);
        Check.due("a new one is the last", w.mapping(1, 6, 1), 100);
    }

    private static void goingOut() {
        text.reads("Going out.");
        text.says("When a packet with the source endpoint s and the remote endpoint d goes out through a "
                + "translator, the mapping with the inner endpoint s and the key for d is used.");
        HolePuncher x = Check.network("hht101(hh)");
        x.send(3, 5, 0, 1);
        x.send(3, 5, 0, 2);
        Check.due("the same one for the same key", x.translator(2, 7), 1);
        Check.due("as the host sees it", x.node(0, 5), 1000);
        text.says("If there is none, a new one is made with an outer port by the assignment:");
        x.send(3, 6, 0, 1);
        x.send(4, 5, 0, 1);
        x.send(3, 5, 1, 1);
        Check.due("for another port, another node, and another key", x.translator(2, 7), 4);
        Check.due("its port", x.node(1, 5), 1003);
    }

    private static void keeping() {
        text.says("0 (keeping): the port of s, or, if a mapping of this translator has it as its outer port, the "
                + "least greater port that none has.");
        HolePuncher x = Check.network("ht200(hh)");
        x.send(2, 7, 0, 1);
        x.send(2, 9, 0, 1);
        x.send(3, 7, 0, 1);
        x.send(3, 7, 0, 2);
        x.send(3, 6, 0, 2);
        int[] ports = {7, 9, 8, 10, 6};
        for (int i = 0; i < ports.length; i++) {
            Check.due("the outer port of " + i, x.mapping(1, i, 2), ports[i]);
        }
    }

    private static void counting() {
        text.says("1 (counting): the translator has a counter, 1000 at first.");
        HolePuncher x = Check.network("ht201(h)");
        Check.due("at first", x.translator(1, 8), 1000);
        text.says("As long as a mapping has the counter as its outer port, the counter grows by the step; then "
                + "it is the outer port, and grows by the step once more.");
        x.send(2, 5, 0, 1);
        Check.due("the outer port", x.mapping(1, 0, 2), 1000);
        Check.due("it grows by 1", x.translator(1, 8), 1001);
        x.setNumber(1, 0, 9);
        x.send(2, 5, 0, 2);
        Check.due("the outer port", x.mapping(1, 1, 2), 1001);
        Check.due("it grows by 9", x.translator(1, 8), 1010);
        Check.due("a port from outside does not matter", x.send(0, 1010, 0, 1010), 0);
        x.send(2, 5, 0, 3);
        Check.due("the outer port", x.mapping(1, 2, 2), 1010);
        HolePuncher y = cameRound();
        y.send(3, 5, 0, 1000);
        Check.due("the port 1000 is taken", y.node(1, 5), 1009);
        Check.due("and the counter is behind 1009", y.translator(0, 8), 1018);
        text.says("Whenever it becomes greater than 9999 by growing, it becomes 1000.");
        Check.due("after 9991", cameRound().translator(0, 8), 1000);
    }

    /**
     * The step of the translator 0 is 9, and a mapping has the port 1000. Then 999 packets from behind the
     * translator 2 come from a new port of it each, so that they take the ports 1009 to 9991; they go to the
     * port 1000, and keep the mapping with that port alive.
     */
    private static HolePuncher cameRound() {
        HolePuncher x = Check.network("t001(ht001(h))");
        x.setNumber(0, 0, 9);
        x.setNumber(0, 1, 2);
        x.setNumber(0, 2, 1);
        x.setNumber(0, 3, 1);
        x.setNumber(2, 1, 1);
        x.send(1, 5, 0, 1);
        long delivered = 0;
        for (int i = 0; i < 50; i++) {
            delivered += x.keepAlive(3, 5, 0, 1000, 2, i < 49 ? 20 : 19);
        }
        Check.due("packets to the port 1000", delivered, 999);
        Check.due("the last one is from the port 9991", x.node(1, 5), 9991);
        return x;
    }

    private static void random() {
        text.says("2 (random): the translator has a random number z, its own node number plus 1 at first.");
        HolePuncher x = Check.network("ht202(h)t202(h)");
        x.send(2, 5, 0, 1);
        Check.due("z is 2 at first", x.mapping(1, 0, 2), 1908);
        x.send(4, 5, 0, 1);
        Check.due("z is 4 at first", x.mapping(3, 0, 2), 2817);
        text.says("z becomes (1103515245 * z + 12345) modulo 2 to the power of 31, again and again, until no "
                + "mapping has the port 1000 + (z / 65536, rounded down) modulo 9000; that is the outer port.");
        int[] ports = {1908, 5817, 2239, 4914, 8837, 1095};
        for (int i = 1; i < ports.length; i++) {
            x.send(2, 5, 0, 1 + i);
            Check.due("the port of " + i, x.mapping(1, i, 2), ports[i]);
        }
        Check.due("the counter is not used", x.translator(1, 8), 1000);
    }

    private static void lostOrUsed() {
        text.says("If a new mapping is needed, and there are 8 already, or there is no such port, the packet is "
                + "lost for the reason 5.");
        HolePuncher x = Check.network("ht201(h)");
        for (int i = 1; i <= 8; i++) {
            x.send(2, 5, 0, i);
        }
        Check.due("there are 8 already", x.send(2, 5, 0, 9), -5);
        Check.due("the counter stays", x.translator(1, 8), 1008);
        Check.due("none is needed", x.send(2, 5, 0, 8), 0);
        HolePuncher y = Check.network("ht200(h)");
        y.send(2, 9999, 0, 1);
        Check.due("there is no such port", y.send(2, 9999, 0, 2), -5);
        Check.due("lost for the reason 5", y.count(10), 1);
        text.says("The tick of the latest use of the mapping becomes the present one, and d becomes its latest "
                + "contact (it is not listed twice).");
        HolePuncher z = Check.network("ht000(h)");
        z.send(2, 5, 0, 1);
        z.pass(40);
        Check.due("40 ticks are gone", z.mapping(1, 0, 5), 20);
        z.send(2, 5, 0, 2);
        Check.due("used anew", z.mapping(1, 0, 5), 60);
        z.send(2, 5, 0, 1);
        Check.due("two contacts", z.mapping(1, 0, 6), 2);
        text.says("Only the latest 8 contacts are kept.");
        HolePuncher w = Check.network("ht020(h)");
        for (int i = 1; i <= 8; i++) {
            w.send(2, 5, 0, i);
        }
        w.send(2, 5, 0, 1);
        w.send(2, 5, 0, 9);
        Check.due("8 contacts", w.mapping(1, 0, 6), 8);
        Check.due("the port 1 was a later contact than the port 2", w.ifSent(0, 1, 1, 5), 2);
        Check.due("the port 2 was the oldest one", w.ifSent(0, 2, 1, 5), -3);
        Check.due("the port 3 is one", w.ifSent(0, 3, 1, 5), 2);
        Check.due("the port 9 is one", w.ifSent(0, 9, 1, 5), 2);
        text.says("The packet goes on in the outer net; its source endpoint is the translator with the outer "
                + "port then.");
        HolePuncher v = Check.network("ht001(ht002(h))");
        v.send(4, 5, 2, 1);
        Check.due("in the net of the translator 1", v.node(2, 4), 3);
        Check.due("with the outer port", v.node(2, 5), 2817);
        v.send(4, 5, 0, 1);
        Check.due("in the public net", v.node(0, 4), 1);
        Check.due("with the outer port", v.node(0, 5), 1000);
    }

    private static void wayOut() {
        text.reads("The way of a packet.");
        text.reads("A packet is sent by a host from a port to a remote endpoint (n, q).");
        text.says("At first it is in the net of the host.");
        HolePuncher x = Check.network("ht000(hht000(h))");
        Check.due("to a host beside it", x.send(2, 5, 3, 1), 3);
        Check.due("to the host itself", x.send(2, 5, 2, 1), 2);
        Check.due("through no translator", x.count(3), 0);
        text.says("As long as n is not in the present net, it goes out through the translator of the present "
                + "net; if the present net is the public one, the packet is lost for the reason 1.");
        Check.due("to the net around", x.send(5, 5, 2, 1), 2);
        Check.due("through the inner translator", x.translator(4, 7), 1);
        Check.due("not through the outer one", x.translator(1, 7), 0);
        Check.due("to the public net", x.send(5, 5, 0, 1), 0);
        Check.due("through the outer one too", x.translator(1, 7), 1);
        Check.due("from the public net to one inside", x.send(0, 5, 2, 1), -1);
        Check.due("to a net that is not around", x.send(2, 6, 5, 1), -1);
        Check.due("it went out before it was lost", x.translator(1, 7), 2);
        Check.due("to a translator that is further in", x.send(0, 5, 4, 1), -1);
    }

    private static void arrival() {
        text.says("When n is in the present net: if n is a host, the packet is delivered to n at the port q.");
        HolePuncher x = Check.network("ht000(h)");
        Check.due("to the host", x.send(2, 5, 0, 77), 0);
        Check.due("at the port", x.node(0, 6), 77);
        text.says("If n is a translator, the packet comes in at n; but if it went out through n just before, and "
                + "n allows no hairpins, it is lost for the reason 4 instead.");
        Check.due("it comes in", x.send(0, 77, 1, 5), 2);
        Check.due("it went out through it", x.send(2, 5, 1, 5), -4);
        x.setNumber(1, 2, 1);
        Check.due("hairpins are allowed", x.send(2, 5, 1, 5), 2);
        HolePuncher y = Check.network("t000(ht000(h))");
        y.send(1, 5, 1, 5);
        Check.due("it went out through another one only", y.send(1, 5, 2, 5), -2);
        Check.due("not just before, but through the inner one first", y.send(3, 5, 0, 5), -4);
        Check.due("through the inner one alone", y.send(3, 5, 2, 5), -4);
    }

    private static void wayIn() {
        text.says("When a packet comes in at a translator at a port, the mapping with this outer port is used; "
                + "if there is none, the packet is lost for the reason 2.");
        HolePuncher x = Check.network("hht000(hh)");
        x.send(3, 5, 0, 1);
        x.send(4, 5, 0, 1);
        Check.due("the first one's port", x.send(1, 1, 2, 5), 3);
        Check.due("the second one's port", x.send(1, 1, 2, 6), 4);
        Check.due("no one's port", x.send(1, 1, 2, 7), -2);
        text.says("It passes if the filter rule is 0, or if the rule is 1, and the node of its source endpoint "
                + "is that of a contact of the mapping, or if the rule is 2, and its source endpoint is a "
                + "contact; otherwise it is lost for the reason 3.");
        int[][] answers = {{3, 3, 3}, {3, 3, -3}, {3, -3, -3}};
        for (int rule = 0; rule <= 2; rule++) {
            HolePuncher y = new HolePuncher();
            y.addHost(NONE);
            y.addHost(NONE);
            y.addTranslator(NONE, 0, rule, 0);
            y.addHost(2);
            y.send(3, 5, 0, 1);
            Check.due("from the contact", y.send(0, 1, 2, 5), answers[rule][0]);
            Check.due("from another port of its node", y.send(0, 2, 2, 5), answers[rule][1]);
            Check.due("from another node", y.send(1, 1, 2, 5), answers[rule][2]);
        }
        text.says("If the translator refreshes inwards, the tick of the latest use of the mapping becomes the "
                + "present one.");
        HolePuncher z = Check.network("ht020(h)");
        z.send(2, 5, 0, 1);
        z.pass(50);
        z.send(0, 1, 1, 5);
        Check.due("it does not", z.mapping(1, 0, 5), 10);
        z.setNumber(1, 3, 1);
        z.send(0, 2, 1, 5);
        Check.due("a packet that does not pass", z.mapping(1, 0, 5), 10);
        z.send(0, 1, 1, 5);
        Check.due("it does", z.mapping(1, 0, 5), 60);
        text.says("Then the packet goes on to the inner endpoint of the mapping: it is delivered to it if that "
                + "is a host; otherwise it comes in at that translator.");
        HolePuncher w = Check.network("ht001(t020(h))");
        w.send(3, 5, 0, 1);
        Check.due("through both", w.send(0, 1, 1, 1000), 3);
        Check.due("at the inner port", w.node(3, 6), 5);
        Check.due("from the same source endpoint", w.node(3, 4) * 10000 + w.node(3, 5), 1);
        Check.due("the inner filter", w.send(0, 2, 1, 1000), -3);
        w.setNumber(2, 1, 1);
        w.pass(2);
        Check.due("the inner mapping is dead", w.send(0, 1, 1, 1000), -2);
    }

    private static void traces() {
        text.says("What a packet has changed on its way stays so, also if it is lost.");
        HolePuncher x = Check.network("t000(t000(h))");
        x.setNumber(0, 3, 1);
        Check.due("lost at the outer one", x.send(2, 5, 0, 7), -4);
        Check.due("both have a mapping", x.count(3), 2);
        Check.due("with a contact", x.mapping(1, 0, 6), 1);
        HolePuncher y = Check.network("ht000(t020(h))");
        y.setNumber(1, 3, 1);
        y.send(3, 5, 0, 1);
        y.pass(9);
        Check.due("lost at the inner one", y.send(0, 2, 1, 5), -3);
        Check.due("the outer one was refreshed", y.mapping(1, 0, 5), 60);
        Check.due("the inner one was not", y.mapping(2, 0, 5), 51);
        text.says("Each host keeps its latest delivery: the source endpoint, and the port at which it was "
                + "delivered.");
        HolePuncher z = Check.network("hhh");
        z.send(1, 11, 0, 12);
        z.send(2, 21, 0, 22);
        z.send(0, 31, 1, 32);
        int[][] latest = {{2, 21, 22}, {0, 31, 32}, {NONE, NONE, NONE}};
        for (int host = 0; host < 3; host++) {
            for (int i = 0; i < 3; i++) {
                Check.due("of the host " + host, z.node(host, 4 + i), latest[host][i]);
            }
        }
    }

    private static void punching() {
        text.reads("Punching. To punch from the host a with the port p to the host b with the port r by a server "
                + "(a third host) means:");
        text.says("1. a sends from p to the port 1 of the server; then b sends from r to the port 1 of the "
                + "server.");
        HolePuncher x = Check.network("hhh");
        Check.due("both hear of each other at once", x.punch(1, 2, 0, false), 1);
        Check.due("two packets to the server, two in the round", x.count(4), 4);
        Check.due("b was the later one", x.node(0, 4), 2);
        Check.due("from r", x.node(0, 5), 500);
        Check.due("to the port 1", x.node(0, 6), 1);
        text.says("The target of b is the source endpoint of the first packet as the server sees it, that of a "
                + "the one of the second packet.");
        HolePuncher y = Check.network("ht021(h)t011(h)");
        Check.due("a is lost at b, b reaches a, and the next a reaches b", y.punch(2, 4, 0, false), 2);
        Check.due("a has heard of the translator of b", y.node(2, 4), 3);
        Check.due("and its port", y.node(2, 5), 1000);
        Check.due("b has heard of the translator of a", y.node(4, 4), 1);
        Check.due("one packet was lost for the reason 3", y.count(8), 1);
        Check.due("none for another one", y.count(4) - y.count(5), 1);
    }

    private static void prediction() {
        text.says("2. With prediction, a sends from p to the port 2 of the server, and then b from r to it.");
        HolePuncher x = Check.network("hhh");
        Check.due("punching", x.punch(1, 2, 0, true), 1);
        Check.due("four packets to the server, two in the round", x.count(4), 6);
        Check.due("b was the later one", x.node(0, 4), 2);
        Check.due("to the port 2", x.node(0, 6), 2);
        text.says("For each of both packets let f be the port of its source endpoint, and e the one for the "
                + "first packet of the same host: the port of the target of the other host becomes f + (f - e) "
                + "if that is from 1 to 9999, otherwise f.");
        HolePuncher y = Check.network("ht221(h)t020(h)");
        Check.due("a's ports 1000 and 1001, then 1002", y.punch(2, 4, 0, true), 2);
        Check.due("b's first packet reached it", y.node(2, 4), 3);
        Check.due("not without prediction", Check.network("ht221(h)t020(h)").punch(2, 4, 0, false), NONE);
        HolePuncher z = Check.network("ht202(h)h");
        Check.due("b's ports 1908 and 5817, then 9726, which none has", z.punch(3, 2, 0, true), 2);
        Check.due("that packet is lost for the reason 2", z.count(7), 1);
        HolePuncher w = Check.network("hhht202(h)");
        Check.due("b's ports 2817 and 7166, then 11515: 7166", w.punch(1, 4, 0, true), 1);
        Check.due("no packet is lost", w.count(4) - w.count(5), 0);
    }

    private static void failure() {
        text.says("If one of these packets is not delivered to the server, punching has failed (the packets "
                + "after it are not sent).");
        HolePuncher x = Check.network("t000(h)hh");
        Check.due("the first one", x.punch(2, 3, 1, true), 0);
        Check.due("one packet was sent", x.count(4), 1);
        HolePuncher y = Check.network("t000(hh)h");
        Check.due("the second one", y.punch(2, 3, 1, true), 0);
        Check.due("two packets were sent", y.count(4), 2);
        HolePuncher z = Check.network("ht201(h)h");
        for (int i = 0; i < 7; i++) {
            z.send(2, 600, 0, 11 + i);
        }
        z.save();
        Check.due("the third one has no room", z.punch(2, 3, 0, true), 0);
        Check.due("three packets were sent", z.count(4), 7 + 3);
        z.restore();
        Check.due("the fourth one has no room", z.punch(3, 2, 0, true), 0);
        Check.due("four packets were sent", z.count(4), 7 + 4);
        Check.due("there is no round", z.count(2), 0);
    }

    private static void rounds() {
        text.reads("3. Then there are rounds.");
        text.says("In a round a sends from p to its target, then b from r to its target, and then the tick grows "
                + "by 1.");
        HolePuncher x = Check.network("ht221(h)t020(h)");
        Check.due("all rounds", x.punch(2, 4, 0, false), NONE);
        Check.due("packets", x.count(4), 2 + 2 * 5);
        Check.due("the tick", x.count(2), 5);
        text.says("When a packet of one of them is delivered to the other one at its port (p of a, r of b), the "
                + "other one has heard of it, and the target of the other one becomes the source endpoint of "
                + "this packet.");
        HolePuncher y = Check.network("ht021(h)h");
        Check.due("a hears b first", y.punch(3, 2, 0, false), 2);
        HolePuncher v = Check.network("ht221(h)h");
        Check.due("b answers to the new target at once", v.punch(2, 3, 0, false), 1);
        HolePuncher z = Check.network("hht200(h)");
        z.send(3, 502, 0, 1);
        Check.due("b's ports 500 and 501, then 502, which is of another port of b", z.punch(1, 3, 0, true), 2);
        Check.due("the new target of a is the port 503", z.mapping(2, 3, 2), 503);
        Check.due("no packet is lost", z.count(4) - z.count(5), 0);
        text.says("Punching has succeeded at the end of the round by which both have heard of each other.");
        HolePuncher w = Check.network("ht020(h)t020(h)");
        Check.due("a in the first, b in the second", w.punch(2, 4, 0, false), 2);
        Check.due("the tick", w.count(2), 2);
        Check.due("packets", w.count(4), 2 + 2 * 2);
    }

    private static void inputText() {
        text.reads("Input text.");
        text.says("The buffer has at most 40 characters.");
        HolePuncher x = new HolePuncher();
        for (int i = 1; i <= 40; i++) {
            Check.due("its length", x.append('h'), i);
        }
        Check.refuses("one more", x, STATE, () -> x.append('h'));
        text.says("A network is a text network = node { node } node = \"h\" | \"t\" digit digit digit \"(\" { "
                + "node } \")\" where h is a host, t a translator with its mapping rule, filter rule and "
                + "assignment (0 to 2), and the nodes in its parentheses are in its inner net.");
        HolePuncher y = Check.network("t012(ht201()h)h");
        int[] kinds = {1, 0, 1, 0, 0};
        int[] nets = {NONE, 0, 0, 0, NONE};
        for (int i = 0; i < 5; i++) {
            Check.due("its kind", y.node(i, 0), kinds[i]);
            Check.due("its net", y.node(i, 1), nets[i]);
        }
        for (int what = 0; what <= 2; what++) {
            Check.due("of the first translator", y.translator(0, what), what);
            Check.due("of the second one", y.translator(2, what), (what + 2) % 3);
        }
        text.says("The nodes are numbered in the order in which they begin.");
        HolePuncher z = Check.network("t000(t000(h)h)h");
        int[] around = {NONE, 0, 1, 0, NONE};
        for (int i = 0; i < 5; i++) {
            Check.due("its net", z.node(i, 1), around[i]);
        }
        text.says("The buffer is read from left to right; a character is a syntax error if no network with at "
                + "most 10 nodes begins with the characters before it and this character.");
        String[] texts = {"", "h", "t", "t0", "t000", "t000(", "t000()", ")", "(", "0", "H", "t3", "t00(", "t0000",
            "t000)", "t000(()", "t000())", "hx", "hhhhhhhhhh", "hhhhhhhhhhh", "hhhhhhhhht", "hhhhhhhhhht", "hhhhhhhhht000()h",
            "t000(hhhhhhhhh)", "t000(hhhhhhhhhh)", "x)(", "t000(t000(t000(t000(t000(t000(t000(t000("};
        int[] errors = {0, 1, 1, 2, 4, 5, 6, 0, 0, 0, 0, 1, 3, 4, 4, 5, 6, 1, 10, 10, 10, 10, 15, 15, 14, 0, 40};
        for (int i = 0; i < texts.length; i++) {
            HolePuncher w = new HolePuncher();
            Check.type(w, texts[i]);
            Check.due("the first error of \"" + texts[i] + "\"", w.firstError(), errors[i]);
        }
    }

    private static void exceptions() {
        text.reads("Exceptions.");
        text.says("A call that throws an exception changes nothing.");
        new Unchanged("near the last tick", () -> Unchanged.richAt(99990)).due(STATE, "keepAlive with too many ticks",
                x -> x.keepAlive(2, 500, 0, 1, 1, 11));
        new Unchanged("in a rich state", Unchanged::rich).due(ARGUMENT, "load", HolePuncher::load);
        text.says("If several exceptions apply, the one that is named first in the throws clause is thrown.");
        HolePuncher full = Check.network("t000(hhhhhhhhh)");
        Check.refuses("all three", full, INDEX, () -> full.addTranslator(1, 3, 3, 3));
        Check.refuses("the latter two", full, ARGUMENT, () -> full.addTranslator(0, 0, 3, 0));
        Check.refuses("the last one", full, STATE, () -> full.addTranslator(0, 0, 0, 0));
        text.reads("The constants:");
        text.says("NONE = -1: There is nothing to return; as a net: the public net.");
        HolePuncher x = new HolePuncher();
        x.addHost(-1);
        Check.due("nothing to return", x.node(0, 4), -1);
        Check.due("the public net", x.node(0, 1), -1);
        text.reads("The constructor and the methods follow, a promise each: the signature, then what it does.");
    }
}
