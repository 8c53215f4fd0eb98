/** Promises 9 to 12: append, clearBuffer, firstError, load. */
public final class TextsTest {
    private static final Class<?> ARGUMENT = IllegalArgumentException.class;
    private static final Class<?> STATE = IllegalStateException.class;

    public static void main(String[] args) {
        append();
        clearBuffer();
        firstError();
        firstErrorAgain();
        load();
        loadBegins();
        Check.end();
    }

    private static void append() {
        HolePuncher x = new HolePuncher();
        for (int code : new int[] {32, 127, 0, -1, 10, 256 + 'h', Integer.MIN_VALUE, Integer.MAX_VALUE}) {
            Check.refuses("append(" + code + ")", x, ARGUMENT, () -> x.append(code));
        }
        Check.due("append(33)", x.append(33), 1);
        Check.due("append(126)", x.append(126), 2);
        for (int i = 3; i <= 40; i++) {
            Check.due("append('h')", x.append('h'), i);
        }
        Check.refuses("append as the 41st", x, STATE, () -> x.append('h'));
        Check.refuses("append(32) as the 41st", x, ARGUMENT, () -> x.append(32));
        Check.due("clearBuffer()", x.clearBuffer(), 40);
        Check.due("append after it", x.append('t'), 1);
    }

    private static void clearBuffer() {
        HolePuncher x = new HolePuncher();
        Check.due("clearBuffer() of nothing", x.clearBuffer(), 0);
        Check.type(x, "h)h");
        x.addHost(-1);
        Check.due("clearBuffer()", x.clearBuffer(), 3);
        Check.due("clearBuffer() again", x.clearBuffer(), 0);
        Check.due("firstError() after it", x.firstError(), 0);
        Check.due("the network stays", x.count(0), 1);
    }

    private static void error(String text, int want) {
        HolePuncher x = new HolePuncher();
        Check.type(x, text);
        long before = x.digest();
        Check.due("firstError() of " + text, x.firstError(), want);
        Check.due("firstError() changes nothing", x.digest(), before);
    }

    private static void firstError() {
        error("", 0);
        error("h", 1);
        error("x", 0);
        error("(", 0);
        error(")", 0);
        error("0", 0);
        error("H", 0);
        error("hh0", 2);
        error("h(", 1);
        error("t", 1);
        error("t0", 2);
        error("t00", 3);
        error("t000", 4);
        error("t222(", 5);
        error("t222()", 6);
        error("t222())", 6);
        error("t3", 1);
        error("t03", 2);
        error("t003", 3);
        error("t/", 1);
        error("th", 1);
        error("t0(", 2);
        error("t00(", 3);
        error("t0000", 4);
        error("t000h", 4);
        error("t000)", 4);
        error("t000(h", 6);
        error("t000((", 5);
        error("t000(0", 5);
        error("t000(h)h)", 8);
        error("t000(t111(h)t222()h)h", 21);
        error("t000(t111(h)t222()h)h)", 21);
        error("hhhhhhhhhh", 10);
        error("hhhhhhhhhhh", 10);
        error("hhhhhhhhhht", 10);
        error("hhhhhhhhhh)", 10);
        error("hhhhhhhhht", 10);
        error("hhhhhhhhht000(", 14);
        error("hhhhhhhhht000(h", 14);
        error("hhhhhhhhht000(t", 14);
        error("hhhhhhhhht000()", 15);
        error("hhhhhhhhht000()h", 15);
        error("t000(t000(t000(t000(t000(t000(t000(t000(", 40);
        error("h!h~", 1);
    }

    /** What an unfinished or wrong text left behind does not count for the next one. */
    private static void firstErrorAgain() {
        HolePuncher x = new HolePuncher();
        for (String before : new String[] {"t", "t0", "t00", "t000", "t000(", "t000(t111(h", "hx", "t3"}) {
            Check.type(x, before);
            x.firstError();
            x.clearBuffer();
            Check.type(x, "t222()h)");
            Check.due("firstError() after " + before, x.firstError(), 7);
            x.clearBuffer();
            Check.type(x, before);
            x.firstError();
            x.clearBuffer();
            Check.type(x, "ht210()");
            Check.due("load() after " + before, x.load(), 2);
            Check.due("the net", x.node(0, 1), -1);
            Check.due("the filter rule", x.translator(1, 1), 1);
        }
    }

    private static void incomplete(String text) {
        HolePuncher x = Check.network("t000(h)h");
        x.send(1, 5, 2, 5);
        x.save();
        Check.type(x, text);
        Check.refuses("load() of " + text, x, ARGUMENT, x::load);
        Check.due("the saved state stays", x.restore(), 0);
    }

    private static void load() {
        for (String text : new String[] {"", "t", "t0", "t00", "t000", "t000(", "t000(h", "ht000(t000()",
                "x", "h)", "hx", "t003()", "hhhhhhhhhhh", "hhhhhhhhht000(h)", ")", "()", "t000()t0"}) {
            incomplete(text);
        }
        HolePuncher x = new HolePuncher();
        Check.type(x, "ht012(ht201(h)h)t120()h");
        Check.due("load()", x.load(), 8);
        int[] kinds = {0, 1, 0, 1, 0, 0, 1, 0};
        int[] nets = {-1, -1, 1, 1, 3, 1, -1, -1};
        for (int i = 0; i < 8; i++) {
            Check.due("kind of " + i, x.node(i, 0), kinds[i]);
            Check.due("net of " + i, x.node(i, 1), nets[i]);
        }
        int[][] rules = {{1, 0, 1, 2}, {3, 2, 0, 1}, {6, 1, 2, 0}};
        for (int[] row : rules) {
            for (int what = 0; what < 3; what++) {
                Check.due("rule " + what + " of " + row[0], x.translator(row[0], what), row[what + 1]);
            }
            Check.due("step of " + row[0], x.translator(row[0], 3), 1);
            Check.due("lifetime of " + row[0], x.translator(row[0], 4), 60);
            Check.due("counter of " + row[0], x.translator(row[0], 8), 1000);
        }
        Check.due("load() of 10 nodes", Check.network("hhhhhhhhhh").count(0), 10);
        Check.due("load() of a node alone", Check.network("t000()").count(0), 1);
    }

    private static void loadBegins() {
        HolePuncher x = Check.network("t000(h)h");
        x.send(1, 5, 2, 5);
        x.send(2, 5, 1, 5);
        x.send(1, 5, 0, 5);
        x.pass(7);
        x.save();
        Check.type(x, "ht002(h)");
        Check.due("load()", x.load(), 3);
        Check.due("nodes", x.count(0), 3);
        Check.due("hosts", x.count(1), 2);
        for (int what = 2; what <= 11; what++) {
            Check.due("count(" + what + ") after load", x.count(what), 0);
        }
        Check.due("the buffer is clear", x.clearBuffer(), 0);
        Check.due("no delivery", x.node(2, 4), -1);
        HolePuncher same = new HolePuncher();
        same.addHost(-1);
        same.addTranslator(-1, 0, 0, 2);
        same.addHost(1);
        Check.due("as by adding", x.digest(), same.digest());
        x.send(2, 5, 0, 5);
        same.send(2, 5, 0, 5);
        Check.due("also the random ports", x.mapping(1, 0, 2), same.mapping(1, 0, 2));
        Check.type(x, "h");
        x.firstError();
        x.ifSent(2, 6, 0, 5);
        x.load();
        Check.due("a trial before load leaves nothing", x.count(4), 0);
        Check.due("nodes", x.count(0), 1);
    }
}
