import java.util.ArrayList;
import java.util.List;

/** Promises 18 to 25: count, node, translator, mapping, timeLeft, common, delivery, digest. */
public final class QuestionsTest {
    private static final Class<?> INDEX = IndexOutOfBoundsException.class;
    private static final Class<?> ARGUMENT = IllegalArgumentException.class;
    private static final int[] FAR = {Integer.MIN_VALUE, -2, Integer.MAX_VALUE};

    public static void main(String[] args) {
        count();
        node();
        translator();
        mapping();
        timeLeft();
        common();
        delivery();
        digest();
        digestOfAllParts();
        Check.end();
    }

    private static void count() {
        HolePuncher x = Check.network("t021(hh)ht000(h)");
        for (int what : new int[] {-1, 12, Integer.MIN_VALUE, Integer.MAX_VALUE}) {
            Check.refuses("count(" + what + ")", x, ARGUMENT, () -> x.count(what));
        }
        x.send(3, 1, 1, 1);
        x.send(3, 1, 0, 1);
        x.send(3, 1, 0, 2);
        x.send(1, 1, 3, 1);
        for (int port = 2; port <= 4; port++) {
            x.send(3, port, 0, 1000);
        }
        for (int i = 0; i < 4; i++) {
            x.send(1, 1, 0, 1);
        }
        for (int port = 1; port <= 12; port++) {
            x.send(2, port, 3, 9);
        }
        x.send(5, 1, 3, 1);
        x.pass(17);
        x.save();
        int[] want = {6, 4, 17, 9, 24, 9, 1, 2, 3, 4, 5, 1};
        for (int what = 0; what <= 11; what++) {
            Check.due("count(" + what + ")", x.count(what), want[what]);
        }
        x.ifSent(3, 1, 1, 1);
        Check.due("ifSent is not counted", x.count(4), 24);
    }

    private static void node() {
        HolePuncher x = Check.network("ht000(ht000(hht000())t000(h))h");
        int[][] want = {
            {0, -1, 0, 0}, {1, -1, 0, 4}, {0, 1, 1, 0}, {1, 1, 1, 2}, {0, 3, 2, 0},
            {0, 3, 2, 0}, {1, 3, 2, 0}, {1, 1, 1, 1}, {0, 7, 2, 0}, {0, -1, 0, 0}};
        for (int i = 0; i < 10; i++) {
            for (int what = 0; what <= 6; what++) {
                int due = what < 4 ? want[i][what] : -1;
                Check.due("node(" + i + ", " + what + ")", x.node(i, what), due);
            }
        }
        x.send(4, 44, 0, 55);
        Check.due("the source node", x.node(0, 4), 1);
        Check.due("the source port", x.node(0, 5), 44);
        Check.due("the port", x.node(0, 6), 55);
        x.send(9, 9999, 0, 1);
        Check.due("the latest source node", x.node(0, 4), 9);
        Check.due("the latest source port", x.node(0, 5), 9999);
        Check.due("the latest port", x.node(0, 6), 1);
        x.send(9, 7, 6, 7);
        Check.due("a lost packet is no delivery", x.node(0, 5), 9999);
        Check.due("a translator keeps none", x.node(1, 4), -1);
        for (int wrong : FAR) {
            Check.refuses("node(" + wrong + ", 0)", x, INDEX, () -> x.node(wrong, 0));
            Check.refuses("node(0, " + wrong + ")", x, ARGUMENT, () -> x.node(0, wrong));
        }
        Check.refuses("node(10, 0)", x, INDEX, () -> x.node(10, 0));
        Check.refuses("node(-1, 0)", x, INDEX, () -> x.node(-1, 0));
        Check.refuses("node(0, 7)", x, ARGUMENT, () -> x.node(0, 7));
        Check.refuses("node(0, -1)", x, ARGUMENT, () -> x.node(0, -1));
        Check.refuses("node(10, 7)", x, INDEX, () -> x.node(10, 7));
    }

    private static void translator() {
        HolePuncher x = Check.network("ht121(h)");
        x.setNumber(1, 0, 3);
        x.setNumber(1, 1, 70);
        x.setNumber(1, 2, 1);
        x.setNumber(1, 3, 1);
        x.send(2, 1, 0, 1);
        x.send(2, 2, 0, 1);
        int[] want = {1, 2, 1, 3, 70, 1, 1, 2, 1006};
        for (int what = 0; what <= 8; what++) {
            Check.due("translator(1, " + what + ")", x.translator(1, what), want[what]);
        }
        x.setNumber(1, 2, 0);
        Check.due("only the hairpins are off", x.translator(1, 5) * 10 + x.translator(1, 6), 1);
        for (int wrong : new int[] {Integer.MIN_VALUE, -1, 0, 2, 3, Integer.MAX_VALUE}) {
            Check.refuses("translator(" + wrong + ", 0)", x, INDEX, () -> x.translator(wrong, 0));
            Check.refuses("translator(" + wrong + ", 9)", x, INDEX, () -> x.translator(wrong, 9));
        }
        for (int wrong : new int[] {Integer.MIN_VALUE, -1, 9, Integer.MAX_VALUE}) {
            Check.refuses("translator(1, " + wrong + ")", x, ARGUMENT, () -> x.translator(1, wrong));
        }
    }

    private static void mapping() {
        HolePuncher x = Check.network("hht202(h)");
        x.send(3, 12, 1, 34);
        x.pass(4);
        x.send(3, 56, 0, 78);
        int[] want = {3, 12, x.mapping(2, 0, 2), 1, 34, 56, 1};
        for (int what = 0; what <= 6; what++) {
            Check.due("mapping(2, 0, " + what + ")", x.mapping(2, 0, what), want[what]);
        }
        Check.due("mapping(2, 1, 1)", x.mapping(2, 1, 1), 56);
        Check.due("mapping(2, 1, 5)", x.mapping(2, 1, 5), 60);
        x.pass(56);
        Check.due("its last tick", x.mapping(2, 0, 5), 0);
        x.pass(1);
        Check.due("the second is the first now", x.mapping(2, 0, 1), 56);
        for (int wrong : new int[] {Integer.MIN_VALUE, -1, 0, 3, Integer.MAX_VALUE}) {
            Check.refuses("mapping(" + wrong + ", 0, 0)", x, INDEX, () -> x.mapping(wrong, 0, 0));
            Check.refuses("mapping(" + wrong + ", 9, 9)", x, INDEX, () -> x.mapping(wrong, 9, 9));
        }
        for (int wrong : new int[] {Integer.MIN_VALUE, -1, 1, 8, Integer.MAX_VALUE}) {
            Check.refuses("mapping(2, " + wrong + ", 0)", x, INDEX, () -> x.mapping(2, wrong, 0));
            Check.refuses("mapping(2, " + wrong + ", 7)", x, INDEX, () -> x.mapping(2, wrong, 7));
        }
        for (int wrong : new int[] {Integer.MIN_VALUE, -1, 7, Integer.MAX_VALUE}) {
            Check.refuses("mapping(2, 0, " + wrong + ")", x, ARGUMENT, () -> x.mapping(2, 0, wrong));
        }
    }

    private static void timeLeft() {
        HolePuncher x = Check.network("ht200(t000(hh))t000(h)");
        Check.due("nothing is there", x.timeLeft(3, 5, 0, 6), -1);
        x.send(3, 5, 0, 6);
        x.pass(10);
        Check.due("both are there", x.timeLeft(3, 5, 0, 6), 50);
        Check.due("the outer one is not", x.timeLeft(3, 5, 0, 7), -1);
        Check.due("another port", x.timeLeft(3, 6, 0, 6), -1);
        Check.due("in the same net", x.timeLeft(3, 5, 4, 6), -1);
        Check.due("only the inner one is needed", x.timeLeft(3, 5, 2, 6), 50);
        x.send(3, 5, 0, 7);
        Check.due("the least of both: the outer one", x.timeLeft(3, 5, 0, 6), 50);
        Check.due("the least of both: the new one", x.timeLeft(3, 5, 0, 7), 60);
        x.setNumber(2, 1, 20);
        Check.due("the least of both: the inner one", x.timeLeft(3, 5, 0, 7), 20);
        Check.due("also for a hairpin", x.timeLeft(3, 5, 1, 7), -1);
        x.send(3, 5, 1, 7);
        Check.due("lost, but its mappings are there", x.timeLeft(3, 5, 1, 7), 20);
        Check.due("from the public net", x.timeLeft(0, 5, 1, 7), -1);
        Check.due("from the public net inwards", x.timeLeft(0, 5, 3, 7), -1);
        x.send(6, 5, 3, 7);
        Check.due("a way to a node that is not reached", x.timeLeft(6, 5, 3, 7), 60);
        x.pass(20);
        Check.due("the last tick", x.timeLeft(3, 5, 0, 7), 0);
        long before = x.digest();
        x.timeLeft(3, 5, 0, 9);
        Check.due("nothing is changed", x.digest(), before);
        x.pass(1);
        Check.due("the inner one is dead", x.timeLeft(3, 5, 0, 7), -1);
        HolePuncher y = Check.network("t000(t000(h)h)h");
        y.send(2, 5, 3, 6);
        Check.due("only as far as it goes out", y.timeLeft(2, 5, 3, 6), 60);
        Check.due("out of the inner net alone", y.timeLeft(2, 5, 1, 6), 60);
        Check.due("further out nothing is there", y.timeLeft(2, 5, 4, 6), -1);
    }

    private static void common() {
        HolePuncher x = Check.network("ht000(ht000(ht000(h))t000(h))h");
        int[][] want = {
            {0, 9, -1}, {0, 0, -1}, {0, 4, -1}, {2, 2, 1}, {2, 4, 1}, {4, 6, 3}, {6, 6, 5},
            {4, 8, 1}, {6, 8, 1}, {3, 4, 1}, {3, 3, 1}, {1, 6, -1}, {5, 6, 3}, {5, 4, 3}, {7, 3, 1},
            {1, 1, -1}, {8, 8, 7}};
        for (int[] row : want) {
            String name = "common(" + row[0] + ", " + row[1] + ")";
            Check.due(name, x.common(row[0], row[1]), row[2]);
            Check.due(name + " the other way round", x.common(row[1], row[0]), row[2]);
        }
        for (int wrong : new int[] {Integer.MIN_VALUE, -1, 10, Integer.MAX_VALUE}) {
            Check.refuses("common(" + wrong + ", 0)", x, INDEX, () -> x.common(wrong, 0));
            Check.refuses("common(0, " + wrong + ")", x, INDEX, () -> x.common(0, wrong));
        }
    }

    private static void delivery() {
        HolePuncher x = Check.network("ht000(h)");
        Check.dueDouble("delivery() of nothing", x.delivery(), 0.0);
        x.send(0, 1, 2, 1);
        Check.dueDouble("delivery() of one lost", x.delivery(), 0.0);
        x.send(2, 1, 0, 1);
        Check.dueDouble("delivery()", x.delivery(), 0.5);
        x.send(0, 1, 2, 1);
        Check.dueDouble("delivery()", x.delivery(), 1.0 / 3.0);
        x.keepAlive(2, 1, 0, 1, 1, 4);
        Check.dueDouble("delivery()", x.delivery(), 5.0 / 7.0);
        HolePuncher y = Check.network("h");
        y.reply(y.send(0, 1, 0, 1));
        Check.dueDouble("delivery() of all", y.delivery(), 1.0);
    }

    private static void digest() {
        HolePuncher x = new HolePuncher();
        x.addHost(-1);
        Check.type(x, "ht");
        Check.due("digest() of a host and a text", x.digest(),
                Check.hash(1, 1, 0, 0, 0, 0, 0, 0, 0, 0, 0, 0, 0, -1, 0, 0, -1, -1, -1, 2, 104, 116));
        x.addTranslator(-1, 2, 1, 0);
        x.addHost(1);
        x.clearBuffer();
        x.send(2, 7, 0, 8);
        x.pass(9);
        x.save();
        Check.due("digest() of a translator with a mapping", x.digest(),
                Check.hash(3, 2, 9, 1, 1, 1, 0, 0, 0, 0, 0, 1,
                        0, -1, 0, 0, 1, 7, 8,
                        1, -1, 0, 1, -1, -1, -1, 2, 1, 0, 1, 60, 0, 0, 1, 1000, 2, 7, 7, 0, 8, 51, 1,
                        0, 1, 1, 0, -1, -1, -1, 0));
    }

    private static long digestByQuestions(HolePuncher x, int... buffer) {
        List<Long> values = new ArrayList<>();
        for (int what = 0; what <= 11; what++) {
            values.add((long) x.count(what));
        }
        for (int i = 0; i < x.count(0); i++) {
            for (int what = 0; what <= 6; what++) {
                values.add((long) x.node(i, what));
            }
            for (int what = 0; x.node(i, 0) == 1 && what <= 8; what++) {
                values.add((long) x.translator(i, what));
            }
            for (int m = 0; x.node(i, 0) == 1 && m < x.translator(i, 7); m++) {
                for (int what = 0; what <= 6; what++) {
                    values.add((long) x.mapping(i, m, what));
                }
            }
        }
        values.add((long) buffer.length);
        for (int code : buffer) {
            values.add((long) code);
        }
        return Check.hash(values.stream().mapToLong(Long::longValue).toArray());
    }

    private static void digestOfAllParts() {
        HolePuncher x = Check.network("ht011(ht122(h))t000(h)");
        x.send(4, 5, 0, 6);
        x.send(2, 5, 0, 6);
        x.send(2, 6, 0, 6);
        x.pass(3);
        x.send(6, 5, 1, 1000);
        x.reply(0);
        Check.type(x, "h~!");
        Check.due("digest() of all parts", x.digest(), digestByQuestions(x, 'h', '~', '!'));
        long before = x.digest();
        x.save();
        Check.isTrue("save changes the digest", x.digest() != before);
    }
}
