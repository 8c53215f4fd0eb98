/** Promises 1 to 8: a new object, begin, addHost, addTranslator, setNumber, pass, save, restore. */
public final class NetworksTest {
    private static final Class<?> INDEX = IndexOutOfBoundsException.class;
    private static final Class<?> ARGUMENT = IllegalArgumentException.class;
    private static final Class<?> STATE = IllegalStateException.class;
    private static final int NONE = HolePuncher.NONE;

    public static void main(String[] args) {
        newObject();
        begin();
        addHost();
        addTranslator();
        setNumber();
        shorterLifetime();
        pass();
        deathTick();
        numbersAfterDeath();
        saveAndRestore();
        restoreHiddenState();
        Check.end();
    }

    private static void newObject() {
        HolePuncher x = new HolePuncher();
        for (int what = 0; what <= 11; what++) {
            Check.due("count(" + what + ") of a new object", x.count(what), 0);
        }
        Check.due("NONE", HolePuncher.NONE, -1);
        Check.due("firstError() of a new object", x.firstError(), 0);
        Check.due("clearBuffer() of a new object", x.clearBuffer(), 0);
        Check.due("begin() of a new object", x.begin(), 0);
        Check.due("digest() of a new object", x.digest(), Check.hash(new long[13]));
        HolePuncher y = new HolePuncher();
        y.addHost(NONE);
        Check.due("count(0) of an object beside another one", x.count(0), 0);
    }

    private static void begin() {
        HolePuncher x = Check.network("t001(h)h");
        x.setNumber(0, 0, 9);
        x.setNumber(0, 1, 1000);
        x.setNumber(0, 2, 1);
        x.setNumber(0, 3, 1);
        x.send(1, 7, 2, 8);
        x.send(2, 7, 0, 8);
        x.send(2, 7, 1, 8);
        x.pass(5);
        x.save();
        x.append('h');
        Check.due("begin()", x.begin(), 3);
        for (int what = 0; what <= 11; what++) {
            Check.due("count(" + what + ") after begin", x.count(what), 0);
        }
        Check.dueDouble("delivery() after begin", x.delivery(), 0.0);
        Check.refuses("restore() after begin", x, STATE, x::restore);
        Check.due("the buffer after begin", x.clearBuffer(), 1);
        Check.due("begin() again", x.begin(), 0);
        for (int i = 0; i < 3; i++) {
            int old = i;
            Check.refuses("node(" + old + ", 0) after begin", x, INDEX, () -> x.node(old, 0));
            Check.refuses("addHost(" + old + ") after begin", x, INDEX, () -> x.addHost(old));
        }
        x.addTranslator(NONE, 0, 0, 1);
        int[] fresh = {0, 0, 1, 1, 60, 0, 0, 0, 1000};
        for (int what = 0; what <= 8; what++) {
            Check.due("translator(0, " + what + ") after begin", x.translator(0, what), fresh[what]);
        }
        x.addHost(0);
        x.addHost(NONE);
        Check.due("node(2, 4) after begin", x.node(2, 4), NONE);
        x.begin();
        x.addHost(NONE);
        Check.due("a host where a translator was", x.node(0, 0), 0);
        Check.refuses("translator(0, 0) of that host", x, INDEX, () -> x.translator(0, 0));
    }

    private static void addHost() {
        HolePuncher x = new HolePuncher();
        Check.refuses("addHost(0) without nodes", x, INDEX, () -> x.addHost(0));
        Check.refuses("addHost(-2)", x, INDEX, () -> x.addHost(-2));
        Check.refuses("addHost(least int)", x, INDEX, () -> x.addHost(Integer.MIN_VALUE));
        Check.refuses("addHost(greatest int)", x, INDEX, () -> x.addHost(Integer.MAX_VALUE));
        Check.due("addHost(NONE)", x.addHost(NONE), 0);
        Check.refuses("addHost(a host)", x, INDEX, () -> x.addHost(0));
        x.addTranslator(NONE, 0, 0, 0);
        Check.due("addHost(1)", x.addHost(1), 2);
        Check.due("its net", x.node(2, 1), 1);
        Check.due("its kind", x.node(2, 0), 0);
        for (int i = 3; i < 10; i++) {
            Check.due("addHost(NONE)", x.addHost(NONE), i);
        }
        Check.due("count(0)", x.count(0), 10);
        Check.refuses("addHost as the 11th node", x, STATE, () -> x.addHost(NONE));
        Check.refuses("addHost as the 11th node in a net", x, STATE, () -> x.addHost(1));
        Check.refuses("addHost(0), a host, as the 11th", x, INDEX, () -> x.addHost(0));
        Check.refuses("addHost(10) as the 11th", x, INDEX, () -> x.addHost(10));
    }

    private static void addTranslator() {
        HolePuncher x = new HolePuncher();
        x.addHost(NONE);
        Check.refuses("in a host", x, INDEX, () -> x.addTranslator(0, 0, 0, 0));
        Check.refuses("in itself", x, INDEX, () -> x.addTranslator(1, 0, 0, 0));
        Check.refuses("in -2", x, INDEX, () -> x.addTranslator(-2, 0, 0, 0));
        Check.refuses("in a host, wrong rule", x, INDEX, () -> x.addTranslator(0, 3, 0, 0));
        for (int wrong : new int[] {-1, 3, Integer.MIN_VALUE, Integer.MAX_VALUE}) {
            Check.refuses("mapping " + wrong, x, ARGUMENT, () -> x.addTranslator(NONE, wrong, 0, 0));
            Check.refuses("filter " + wrong, x, ARGUMENT, () -> x.addTranslator(NONE, 0, wrong, 0));
            Check.refuses("assignment " + wrong, x, ARGUMENT, () -> x.addTranslator(NONE, 0, 0, wrong));
        }
        Check.due("addTranslator(NONE, 2, 1, 0)", x.addTranslator(NONE, 2, 1, 0), 1);
        Check.due("addTranslator(1, 0, 2, 1)", x.addTranslator(1, 0, 2, 1), 2);
        Check.due("its outer net", x.node(2, 1), 1);
        int[] first = {2, 1, 0, 1, 60, 0, 0, 0, 1000};
        int[] second = {0, 2, 1, 1, 60, 0, 0, 0, 1000};
        for (int what = 0; what <= 8; what++) {
            Check.due("translator(1, " + what + ")", x.translator(1, what), first[what]);
            Check.due("translator(2, " + what + ")", x.translator(2, what), second[what]);
        }
        for (int i = 3; i < 10; i++) {
            Check.due("addTranslator in the one before", x.addTranslator(i - 1, 0, 0, 0), i);
        }
        Check.refuses("the 11th", x, STATE, () -> x.addTranslator(NONE, 0, 0, 0));
        Check.refuses("the 11th, wrong rule", x, ARGUMENT, () -> x.addTranslator(NONE, 0, 3, 0));
        Check.refuses("the 11th, wrong net", x, INDEX, () -> x.addTranslator(0, 0, 3, 0));
    }

    private static void setNumber() {
        HolePuncher x = Check.network("t000()h");
        int[] first = {1, 60, 0, 0};
        int[] least = {1, 1, 0, 0};
        int[] greatest = {9, 1000, 1, 1};
        for (int i = 0; i < 4; i++) {
            int what = i;
            Check.due("setNumber: first " + what, x.setNumber(0, what, greatest[what]), first[what]);
            Check.due("setNumber: greatest " + what, x.setNumber(0, what, least[what]), greatest[what]);
            Check.due("setNumber: least " + what, x.setNumber(0, what, greatest[what]), least[what]);
            Check.due("translator tells it", x.translator(0, what + 3), greatest[what]);
            Check.refuses("too small " + what, x, ARGUMENT, () -> x.setNumber(0, what, least[what] - 1));
            Check.refuses("too great " + what, x, ARGUMENT, () -> x.setNumber(0, what, greatest[what] + 1));
        }
        for (int what : new int[] {-1, 4, Integer.MIN_VALUE, Integer.MAX_VALUE}) {
            Check.refuses("what " + what, x, ARGUMENT, () -> x.setNumber(0, what, 1));
        }
        for (int translator : new int[] {-1, 1, 2, Integer.MIN_VALUE, Integer.MAX_VALUE}) {
            Check.refuses("translator " + translator, x, INDEX, () -> x.setNumber(translator, 0, 1));
            Check.refuses("all wrong, " + translator, x, INDEX, () -> x.setNumber(translator, 9, 0));
        }
    }

    private static void shorterLifetime() {
        HolePuncher x = Check.network("t200(h)h");
        x.send(1, 10, 2, 1);
        x.pass(5);
        x.send(1, 10, 2, 2);
        x.pass(5);
        Check.due("a lifetime that both still have", x.setNumber(0, 1, 10), 60);
        Check.due("mappings", x.translator(0, 7), 2);
        Check.due("a lifetime that one has passed", x.setNumber(0, 1, 9), 10);
        Check.due("mappings", x.translator(0, 7), 1);
        Check.due("the one that lives", x.mapping(0, 0, 4), 2);
        Check.due("how long it lives", x.mapping(0, 0, 5), 4);
        Check.due("pass counts only what it ends", x.pass(5), 1);
        x.send(1, 10, 2, 3);
        x.pass(3);
        x.setNumber(0, 1, 20);
        Check.due("a longer lifetime", x.mapping(0, 0, 5), 17);
        x.setNumber(0, 1, 3);
        Check.due("a lifetime at its edge", x.mapping(0, 0, 5), 0);
        Check.due("count(3)", x.count(3), 1);
    }

    private static void pass() {
        HolePuncher x = new HolePuncher();
        for (int ticks : new int[] {0, -1, 1001, Integer.MIN_VALUE, Integer.MAX_VALUE}) {
            Check.refuses("pass(" + ticks + ")", x, ARGUMENT, () -> x.pass(ticks));
        }
        Check.due("pass(1)", x.pass(1), 0);
        Check.due("the tick", x.count(2), 1);
        Check.due("pass(1000)", x.pass(1000), 0);
        Check.due("the tick", x.count(2), 1001);
        Check.passTo(x, 99500);
        Check.refuses("pass(501) at 99500", x, STATE, () -> x.pass(501));
        Check.due("pass(500) at 99500", x.pass(500), 0);
        Check.due("the tick", x.count(2), 100000);
        Check.refuses("pass(1) at 100000", x, STATE, () -> x.pass(1));
        Check.refuses("pass(0) at 100000", x, ARGUMENT, () -> x.pass(0));
    }

    private static void deathTick() {
        HolePuncher x = Check.network("t000(t000(h)h)h");
        x.setNumber(1, 1, 7);
        x.send(2, 10, 4, 1);
        x.send(3, 11, 4, 1);
        Check.due("the lifetime itself is lived", x.pass(7), 0);
        Check.due("one tick more", x.pass(1), 1);
        Check.due("the outer mappings live on", x.translator(0, 7), 2);
        Check.due("until 60", x.pass(52), 0);
        Check.due("mappings", x.count(3), 2);
        Check.due("and die at 61", x.pass(1), 2);
        Check.due("mappings", x.count(3), 0);
        x.send(2, 10, 4, 1);
        x.pass(5);
        x.send(2, 10, 4, 1);
        Check.due("use starts the time again", x.pass(7), 0);
        x.send(3, 11, 4, 1);
        Check.due("pass counts over all translators", x.pass(61), 3);
    }

    private static void numbersAfterDeath() {
        HolePuncher x = Check.network("t200(h)h");
        for (int port = 1; port <= 5; port++) {
            x.send(1, 100, 2, port);
            x.pass(1);
        }
        x.send(1, 100, 2, 2);
        x.send(1, 100, 2, 4);
        Check.due("three of five die", x.pass(61 - 1), 3);
        Check.due("mapping(0, 0, 4)", x.mapping(0, 0, 4), 2);
        Check.due("mapping(0, 1, 4)", x.mapping(0, 1, 4), 4);
        x.send(1, 100, 2, 9);
        Check.due("the new one is the last", x.mapping(0, 2, 4), 9);
        Check.due("it takes the free port", x.mapping(0, 2, 2), 100);
        Check.due("it has one contact", x.mapping(0, 2, 6), 1);
        Check.due("mappings", x.translator(0, 7), 3);
        for (int port = 10; port <= 14; port++) {
            x.send(1, 100, 2, port);
        }
        int[] keys = {2, 4, 9, 10, 11, 12, 13, 14};
        for (int i = 0; i < 8; i++) {
            Check.due("mapping(0, " + i + ", 4)", x.mapping(0, i, 4), keys[i]);
        }
    }

    private static void saveAndRestore() {
        HolePuncher x = Check.network("t011(h)h");
        Check.refuses("restore() before save", x, STATE, x::restore);
        x.pass(3);
        x.send(1, 5, 2, 6);
        Check.due("save()", x.save(), 3);
        Check.due("count(11)", x.count(11), 1);
        long before = x.digest();
        x.setNumber(0, 1, 4);
        x.setNumber(0, 2, 1);
        x.setNumber(0, 3, 1);
        x.setNumber(0, 0, 4);
        x.send(1, 6, 2, 7);
        x.send(1, 6, 0, 7);
        x.pass(100);
        x.addHost(NONE);
        x.append('h');
        Check.due("restore()", x.restore(), 3);
        Check.due("the buffer stays", x.clearBuffer(), 1);
        Check.due("the digest is back", x.digest(), before);
        Check.due("the state stays saved", x.count(11), 1);
        x.send(2, 1, 0, 1000);
        x.pass(9);
        Check.due("restore() again", x.restore(), 3);
        Check.due("the digest is back again", x.digest(), before);
        x.pass(2);
        Check.due("save() in place of it", x.save(), 5);
        x.pass(2);
        Check.due("restore() of the second", x.restore(), 5);
        x.save();
        x.append('h');
        x.load();
        Check.due("load ends what is saved", x.count(11), 0);
        Check.refuses("restore() after load", x, STATE, x::restore);
    }

    /** Contacts, the random number and the counter come back too, though nothing tells all of them. */
    private static void restoreHiddenState() {
        HolePuncher x = Check.network("t022(h)t022(h)h");
        x.send(1, 5, 4, 6);
        x.send(3, 5, 4, 6);
        int port = x.mapping(0, 0, 2);
        x.save();
        x.send(1, 6, 4, 6);
        int next = x.mapping(0, 1, 2);
        x.send(1, 5, 4, 7);
        Check.due("a contact after save", x.send(4, 7, 0, port), 1);
        x.restore();
        Check.due("it is gone", x.send(4, 7, 0, port), -3);
        x.send(1, 6, 4, 6);
        Check.due("the same random port again", x.mapping(0, 1, 2), next);
        x.pass(100);
        for (int other = 20; other <= 24; other++) {
            x.send(1, 8, 4, other);
        }
        x.restore();
        Check.due("the number of contacts is back", x.mapping(0, 0, 6), 1);
        Check.due("the time is back", x.mapping(0, 0, 5), 60);
        Check.due("the contact is back", x.send(4, 6, 0, port), 1);
        Check.due("the others are gone", x.send(4, 20, 0, port), -3);
    }
}
