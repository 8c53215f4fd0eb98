/** The boundary cases of the paragraph Input text, and of the promises 9 to 12. */
public final class TextBoundsTest {
    private static final Class<?> ARGUMENT = IllegalArgumentException.class;
    private static final Class<?> STATE = IllegalStateException.class;
    private static final int NONE = HolePuncher.NONE;
    /** Ten nodes in 40 characters. */
    private static final String LONGEST = "t000()".repeat(6) + "hhhh";

    public static void main(String[] args) {
        buffer();
        codes();
        clearBuffer();
        emptyText();
        nodes();
        digits();
        parentheses();
        everyCharacter();
        tenNodes();
        longTexts();
        firstOfSeveral();
        numbers();
        loadBegins();
        loadClears();
        refusedLoad();
        Check.end();
    }

    private static HolePuncher typed(String text) {
        HolePuncher x = new HolePuncher();
        Check.type(x, text);
        return x;
    }

    private static void error(String text, int want) {
        HolePuncher x = typed(text);
        Check.due("firstError() of " + text, x.firstError(), want);
        Check.due("the buffer after it", x.clearBuffer(), text.length());
    }

    private static void complete(String text, int nodes) {
        HolePuncher x = typed(text);
        Check.due("firstError() of " + text, x.firstError(), text.length());
        Check.dueText("load() of " + text, Check.answer(x::load), Integer.toString(nodes));
    }

    private static void unfinished(String text) {
        HolePuncher x = typed(text);
        Check.due("firstError() of " + text, x.firstError(), text.length());
        Check.refuses("load() of " + text, x, ARGUMENT, x::load);
    }

    private static void wrong(String text, int want) {
        HolePuncher x = typed(text);
        Check.due("firstError() of " + text, x.firstError(), want);
        Check.refuses("load() of " + text, x, ARGUMENT, x::load);
    }

    private static void buffer() {
        Check.sentence("The buffer has at most 40 characters.");
        HolePuncher x = new HolePuncher();
        for (int i = 1; i <= 40; i++) {
            Check.due("append", x.append('h'), i);
        }
        Check.refuses("a 41st", x, STATE, () -> x.append('h'));
        Check.due("the buffer", x.clearBuffer(), 40);
        Check.due("after clearBuffer", x.append('h'), 1);
    }

    private static void codes() {
        Check.sentence("code: the character code, 33 to 126. Returns the new length of the buffer.");
        HolePuncher x = new HolePuncher();
        for (int code = 33; code <= 126; code++) {
            Check.due("append(" + code + ")", x.append(code), (code - 33) % 40 + 1);
            if ((code - 33) % 40 == 39) {
                x.clearBuffer();
            }
        }
        HolePuncher y = new HolePuncher();
        y.append('h');
        for (int i = 0; i < 40; i++) {
            int below = 32 - i;
            int above = 127 + i;
            Check.refuses("append(" + below + ")", y, ARGUMENT, () -> y.append(below));
            Check.refuses("append(" + above + ")", y, ARGUMENT, () -> y.append(above));
        }
    }

    private static void clearBuffer() {
        Check.sentence("Clears the buffer. Returns the length that it had.");
        HolePuncher x = new HolePuncher();
        Check.due("of an empty buffer", x.clearBuffer(), 0);
        x.append('h');
        Check.due("of one character", x.clearBuffer(), 1);
        Check.due("again", x.clearBuffer(), 0);
        Check.type(x, LONGEST);
        Check.due("of 40 characters", x.clearBuffer(), 40);
        Check.due("the first error then", x.firstError(), 0);
        Check.refuses("load() then", x, ARGUMENT, x::load);
        Check.due("the digest of nothing", x.digest(), new HolePuncher().digest());
    }

    private static void emptyText() {
        Check.sentence("network = node { node }: at least one node");
        unfinished("");
        complete("h", 1);
        complete("hh", 2);
        complete("t000()", 1);
    }

    private static void nodes() {
        Check.sentence("node = \"h\" | \"t\" digit digit digit \"(\" { node } \")\"");
        complete("t012()", 1);
        complete("t012(h)", 2);
        complete("t012(hh)", 3);
        complete("t012(t120())", 2);
        complete("ht012(h)h", 4);
        for (String start : new String[] {"t", "t0", "t01", "t012", "t012(", "t012(h", "t012(t120()", "t012(t120("}) {
            unfinished(start);
            unfinished("h" + start);
        }
    }

    private static void digits() {
        Check.sentence("t a translator with its mapping rule, filter rule and assignment (0 to 2)");
        for (char digit = '0'; digit <= '2'; digit++) {
            complete("t" + digit + digit + digit + "()", 1);
        }
        for (char sign : new char[] {'/', '3', '9', ':', '(', ')', 'h', 't', '-', '+', 'a', '!', '~'}) {
            wrong("t" + sign, 1);
            wrong("t2" + sign, 2);
            wrong("t22" + sign, 3);
            wrong("t" + sign + "00()", 1);
        }
        HolePuncher x = typed("t210()t021()t102()");
        x.load();
        int[][] rules = {{2, 1, 0}, {0, 2, 1}, {1, 0, 2}};
        for (int i = 0; i < 3; i++) {
            for (int what = 0; what < 3; what++) {
                Check.due("rule " + what + " of " + i, x.translator(i, what), rules[i][what]);
            }
        }
    }

    private static void parentheses() {
        Check.sentence("the nodes in its parentheses are in its inner net");
        wrong(")", 0);
        wrong("(", 0);
        wrong("h)", 1);
        wrong("h()", 1);
        wrong("t000())", 6);
        wrong("t000((", 5);
        wrong("t000)", 4);
        wrong("t000(h))", 7);
        wrong("t000(t000(h)))", 13);
        HolePuncher x = typed("t000(t000(h)ht000())h");
        Check.due("load()", x.load(), 6);
        int[] nets = {NONE, 0, 1, 0, 0, NONE};
        for (int i = 0; i < 6; i++) {
            Check.due("the net of " + i, x.node(i, 1), nets[i]);
        }
    }

    /** Which of all characters may stand at each kind of place. */
    private static void everyCharacter() {
        Check.sentence("a character is a syntax error if no network with at most 10 nodes begins with the characters "
                + "before it and this character");
        String[] places = {"", "h", "t", "t1", "t12", "t120", "t120(", "t120(h", "t120()", "hhhhhhhhh", "hhhhhhhhhh",
            "t120(hhhhhhhhh", "t120(hhhhhhhh", "hhhhhhhhht120("};
        String[] allowed = {"ht", "ht", "012", "012", "012", "(", "ht)", "ht)", "ht", "ht", "",
            ")", "ht)", ")"};
        for (int place = 0; place < places.length; place++) {
            for (char sign = 33; sign <= 126; sign++) {
                int before = places[place].length();
                error(places[place] + sign, allowed[place].indexOf(sign) >= 0 ? before + 1 : before);
            }
        }
    }

    private static void tenNodes() {
        Check.sentence("no network with at most 10 nodes begins with ..");
        complete("hhhhhhhhhh", 10);
        wrong("hhhhhhhhhhh", 10);
        wrong("hhhhhhhhhht", 10);
        wrong("hhhhhhhhhh)", 10);
        complete("hhhhhhhhht222()", 10);
        wrong("hhhhhhhhht222(h", 14);
        wrong("hhhhhhhhht222(t", 14);
        wrong("hhhhhhhhht222()h", 15);
        wrong("hhhhhhhhht222()t", 15);
        unfinished("hhhhhhhhht");
        complete("t000(hhhhhhhhh)", 10);
        wrong("t000(hhhhhhhhhh)", 14);
        complete("t000(t000(t000(hhhhhhh)))", 10);
        wrong("t000(t000(t000(hhhhhhh)))h", 25);
    }

    private static void longTexts() {
        Check.sentence("The buffer has at most 40 characters. A network is a text: the longest texts");
        complete(LONGEST, 10);
        complete("t000(".repeat(6) + ")".repeat(6) + "hhhh", 10);
        unfinished("t000(".repeat(8));
        unfinished("t000(".repeat(6) + ")".repeat(5) + "hhhh");
        wrong("t000()".repeat(6) + "hhh(", 39);
        wrong("t000()".repeat(6) + "hhh)", 39);
        unfinished("t000()".repeat(6) + "hhht");
        wrong("t000(".repeat(6) + ")".repeat(7) + "hhh", 36);
        wrong("h" + "x".repeat(39), 1);
        wrong("x".repeat(40), 0);
    }

    private static void firstOfSeveral() {
        Check.sentence("Returns the index of the first character that is a syntax error; the length of the buffer if "
                + "there is none.");
        error("", 0);
        error("xh", 0);
        error("xx", 0);
        error("hxx", 1);
        error("hxh", 1);
        error("t3(x", 1);
        error("t000(x)x", 5);
        error("h", 1);
        error("t00", 3);
        HolePuncher x = new HolePuncher();
        String text = "t000(hxh)";
        int[] want = {1, 2, 3, 4, 5, 6, 6, 6, 6};
        for (int i = 0; i < text.length(); i++) {
            x.append(text.charAt(i));
            Check.due("firstError() of the first " + (i + 1), x.firstError(), want[i]);
            Check.due("asked again", x.firstError(), want[i]);
        }
    }

    private static void numbers() {
        Check.sentence("The nodes are numbered in the order in which they begin.");
        HolePuncher x = typed("t000(t100(h)t200())ht010(t020()h)");
        Check.due("load()", x.load(), 8);
        int[] kinds = {1, 1, 0, 1, 0, 1, 1, 0};
        int[] nets = {NONE, 0, 1, 0, NONE, NONE, 5, 5};
        for (int i = 0; i < 8; i++) {
            Check.due("the kind of " + i, x.node(i, 0), kinds[i]);
            Check.due("the net of " + i, x.node(i, 1), nets[i]);
        }
        Check.due("the mapping rule of 1", x.translator(1, 0), 1);
        Check.due("the mapping rule of 3", x.translator(3, 0), 2);
        Check.due("the filter rule of 5", x.translator(5, 1), 1);
        Check.due("the filter rule of 6", x.translator(6, 1), 2);
    }

    private static void loadBegins() {
        Check.sentence("Begins the network in the buffer (as by begin). Returns the number of nodes.");
        HolePuncher x = Unchanged.full();
        x.clearBuffer();
        x.append('h');
        Check.due("load() of one node after 10", x.load(), 1);
        for (int what = 2; what <= 11; what++) {
            Check.due("count(" + what + ")", x.count(what), 0);
        }
        Check.dueDouble("delivery()", x.delivery(), 0.0);
        Check.refuses("restore()", x, STATE, x::restore);
        Check.refuses("reply(0)", x, STATE, () -> x.reply(0));
        Check.type(x, LONGEST);
        Check.due("load() of 10 nodes after one", x.load(), 10);
        x.begin();
        Check.due("it can be loaded only once", x.clearBuffer(), 0);
    }

    private static void loadClears() {
        Check.sentence(".. and clears the buffer.");
        HolePuncher x = typed(LONGEST);
        x.load();
        Check.due("clearBuffer()", x.clearBuffer(), 0);
        Check.refuses("load() again", x, ARGUMENT, x::load);
        Check.due("append", x.append('h'), 1);
    }

    private static void refusedLoad() {
        Check.sentence("A call that throws an exception changes nothing: load of a text with a good beginning");
        HolePuncher x = Check.network("t000(h)h");
        x.send(1, 5, 2, 5);
        x.save();
        Check.type(x, "hhhht000(h");
        Check.refuses("load()", x, ARGUMENT, x::load);
        Check.due("nodes", x.count(0), 3);
        Check.due("the buffer goes on", x.append(')'), 11);
        Check.due("the state stays saved", x.restore(), 0);
        Check.due("load() when it is complete", x.load(), 6);
    }
}
