import java.util.Map;
import java.util.Random;
import java.util.TreeMap;
import java.util.function.LongSupplier;

/**
 * All promises: long runs of calls on HolePuncher and on Model, whose answers, exceptions and
 * digests must be the same. The seed is fixed, so every run of this test makes the same calls.
 */
public final class ModelTest {
    private static final int RUNS = 3000;
    /** An object has 512 calls; the last step may take some forty of them. */
    private static final int CALLS = 460;
    private static final String[] PIECES = {"h", "h", "h", "t000(", "t111(", "t222(", "t021(", "t122(", "t20",
        "t220(", "t012(", ")", ")", ")", "t", "0", "2", "3", "(", "x"};

    private final Random random;
    private final HolePuncher x = new HolePuncher();
    private final Model model = new Model();
    /** Few hosts, ports and so on in a run make packets meet. */
    private final int portKinds;
    private String call = "";
    private int calls = 0;

    private ModelTest(int seed) {
        random = new Random(seed);
        portKinds = 1 + random.nextInt(12);
    }

    public static void main(String[] args) {
        Map<String, Integer> answers = new TreeMap<>();
        for (int run = 0; run < RUNS; run++) {
            ModelTest test = new ModelTest(run);
            test.build();
            if (run % 30 == 0) {
                test.passFar();
            }
            while (test.calls < CALLS) {
                String differs = test.step(answers);
                if (differs != null) {
                    System.out.println("run " + run + ", call " + test.calls + ": " + differs);
                    System.exit(1);
                }
            }
            Check.dueDouble("delivery() of run " + run, test.x.delivery(), test.model.delivery());
        }
        System.out.println(RUNS + " runs with " + answers.size() + " kinds of answers");
        for (String name : new String[] {"send -1", "send -2", "send -3", "send -4", "send -5", "send", "reply",
            "reply -2", "reply -3", "punch 0", "punch 1", "punch 2", "punch 3", "punch -1", "ifSent -5",
            "keepAlive", "timeLeft", "timeLeft -1", "restore", "load", "load IllegalArgumentException",
            "append IllegalStateException", "addHost IllegalStateException", "pass IllegalStateException",
            "punch IllegalStateException", "keepAlive IllegalStateException"}) {
            Check.isTrue("the answer " + name + " was met", answers.containsKey(name));
        }
        Check.end();
    }

    private void build() {
        int nodes = 3 + random.nextInt(8);
        for (int i = 0; i < nodes; i++) {
            int net = random.nextInt(5) == 0 ? -1 : anyTranslator();
            if (i == 0 || random.nextInt(5) < 2) {
                int mapping = random.nextInt(3);
                int filter = random.nextInt(3);
                int assignment = random.nextInt(3);
                both("addTranslator()", () -> x.addTranslator(net, mapping, filter, assignment),
                        () -> model.addTranslator(net, mapping, filter, assignment));
            } else {
                both("addHost()", () -> x.addHost(net), () -> model.addHost(net));
            }
        }
    }

    /** Near the greatest tick, which the random calls alone would not reach. */
    private void passFar() {
        for (int i = 0; i < 99; i++) {
            both("pass(1000)", () -> x.pass(1000), () -> model.pass(1000));
        }
        both("pass(900)", () -> x.pass(900), () -> model.pass(900));
    }

    private int anyNode() {
        int nodes = model.count(0);
        return random.nextInt(60) == 0 ? random.nextInt(14) - 2 : nodes == 0 ? 0 : random.nextInt(nodes);
    }

    private int anyOf(int kind) {
        int found = anyNode();
        for (int i = 0; i < 10; i++) {
            if (found < 0 || found >= model.count(0) || model.node(found, 0) == kind) {
                return found;
            }
            found = anyNode();
        }
        return found;
    }

    private int anyHost() {
        return anyOf(0);
    }

    private int anotherHost(int one, int other) {
        int found = anyHost();
        for (int i = 0; i < 10 && (found == one || found == other); i++) {
            found = anyHost();
        }
        return found;
    }

    private int anyTranslator() {
        return model.count(0) == 0 ? -1 : anyOf(1);
    }

    private int anyPort() {
        int kind = random.nextInt(200);
        if (kind < 2) {
            return new int[] {0, 10000, -1, 9999, 1}[random.nextInt(5)];
        }
        if (kind < 10) {
            return 9995 + random.nextInt(5);
        }
        return 500 + random.nextInt(portKinds);
    }

    /** Often the outer port of a mapping, or one beside it. */
    private int anyRemotePort(int node) {
        boolean isTranslator = node >= 0 && node < model.count(0) && model.node(node, 0) == 1;
        if (isTranslator && model.translator(node, 7) > 0 && random.nextInt(10) < 8) {
            return model.mapping(node, random.nextInt(model.translator(node, 7)), 2);
        }
        return anyPort();
    }

    private String step(Map<String, Integer> answers) {
        String[] both = anyCall();
        String name = call.substring(0, call.indexOf('('));
        String kind = both[1].startsWith("-") || !Character.isDigit(both[1].charAt(0)) ? " " + both[1] : "";
        answers.merge(name + kind, 1, Integer::sum);
        if (name.equals("punch")) {
            answers.merge("punch " + both[1], 1, Integer::sum);
        }
        if (!both[0].equals(both[1])) {
            return call + " answered " + both[0] + ", the model " + both[1];
        }
        calls++;
        return x.digest() == model.digest() ? null : "after " + call + " the digests differ";
    }

    private String[] both(String text, LongSupplier ours, LongSupplier models) {
        call = text;
        calls++;
        return new String[] {Check.answer(ours), Check.answer(models)};
    }

    private String[] anyCall() {
        int kind = random.nextInt(100);
        if (kind < 55) {
            return anyPacketCall();
        }
        if (kind < 63) {
            int ticks = random.nextInt(40) == 0 ? random.nextInt(1100) - 10 : 1 + random.nextInt(30);
            return both("pass(" + ticks + ")", () -> x.pass(ticks), () -> model.pass(ticks));
        }
        if (kind < 72) {
            return anySetting();
        }
        if (kind < 75) {
            return anyAddition();
        }
        if (kind < 77) {
            return both("save()", x::save, model::save);
        }
        if (kind < 80) {
            return both("restore()", x::restore, model::restore);
        }
        if (kind < 88) {
            return anyText();
        }
        return anyQuestion();
    }

    private String[] anyPacketCall() {
        int h = anyHost();
        int p = anyPort();
        int n = random.nextInt(3) == 0 ? anyHost() : anyNode();
        int q = anyRemotePort(n);
        String tail = h + ", " + p + ", " + n + ", " + q + ")";
        int kind = random.nextInt(20);
        if (kind < 9) {
            return both("send(" + tail, () -> x.send(h, p, n, q), () -> model.send(h, p, n, q));
        }
        if (kind < 12) {
            return both("reply(" + h + ")", () -> x.reply(h), () -> model.reply(h));
        }
        if (kind < 14) {
            return both("ifSent(" + tail, () -> x.ifSent(h, p, n, q), () -> model.ifSent(h, p, n, q));
        }
        if (kind < 16) {
            return both("timeLeft(" + tail, () -> x.timeLeft(h, p, n, q), () -> model.timeLeft(h, p, n, q));
        }
        if (kind < 17) {
            int interval = random.nextInt(20) == 0 ? random.nextInt(1100) - 10 : 1 + random.nextInt(9);
            int many = random.nextInt(20) == 0 ? random.nextInt(30) - 2 : 1 + random.nextInt(6);
            return both("keepAlive(" + tail, () -> x.keepAlive(h, p, n, q, interval, many),
                    () -> model.keepAlive(h, p, n, q, interval, many));
        }
        int b = anotherHost(h, h);
        int server = anotherHost(h, b);
        boolean predict = random.nextBoolean();
        return both("punch(" + h + ", " + b + ", " + server + ", " + predict + ")",
                () -> x.punch(h, b, server, predict), () -> model.punch(h, b, server, predict));
    }

    private String[] anySetting() {
        int t = anyTranslator();
        int what = random.nextInt(20) == 0 ? random.nextInt(7) - 1 : random.nextInt(4);
        int value = what >= 2 ? random.nextInt(2) : what == 0 ? 1 + random.nextInt(9) : 5 + random.nextInt(100);
        int v = random.nextInt(20) == 0 ? random.nextInt(1100) - 10 : value;
        return both("setNumber(" + t + ", " + what + ", " + v + ")", () -> x.setNumber(t, what, v),
                () -> model.setNumber(t, what, v));
    }

    private String[] anyAddition() {
        int net = random.nextInt(3) == 0 ? -1 : anyTranslator();
        int kind = random.nextInt(20);
        if (kind < 10) {
            return both("addHost(" + net + ")", () -> x.addHost(net), () -> model.addHost(net));
        }
        if (kind < 19) {
            int m = random.nextInt(20) == 0 ? 3 : random.nextInt(3);
            int f = random.nextInt(20) == 0 ? -1 : random.nextInt(3);
            int a = random.nextInt(20) == 0 ? 4 : random.nextInt(3);
            return both("addTranslator(" + net + ", " + m + ", " + f + ", " + a + ")",
                    () -> x.addTranslator(net, m, f, a), () -> model.addTranslator(net, m, f, a));
        }
        String[] both = both("begin()", x::begin, model::begin);
        build();
        call = "begin()";
        return both;
    }

    private String[] anyText() {
        int kind = random.nextInt(20);
        if (kind < 1) {
            return both("load()", x::load, model::load);
        }
        if (kind < 3) {
            return both("clearBuffer()", x::clearBuffer, model::clearBuffer);
        }
        if (kind < 4) {
            return both("firstError()", x::firstError, model::firstError);
        }
        if (kind < 5) {
            int code = random.nextInt(140) - 5;
            return both("append(" + code + ")", () -> x.append(code), () -> model.append(code));
        }
        return anyNetworkText();
    }

    /** Appends pieces of a text, and asks for its first error at once; sometimes loads it. */
    private String[] anyNetworkText() {
        if (random.nextInt(3) == 0) {
            x.clearBuffer();
            model.clearBuffer();
        }
        String piece = "";
        for (int i = random.nextInt(9); i >= 0; i--) {
            piece += PIECES[random.nextInt(random.nextInt(4) == 0 ? PIECES.length : PIECES.length - 6)];
        }
        for (int i = 0; i < piece.length(); i++) {
            int code = piece.charAt(i);
            String[] both = both("append(" + code + ")", () -> x.append(code), () -> model.append(code));
            if (!both[0].equals(both[1]) || !Character.isDigit(both[0].charAt(0))) {
                return both;
            }
        }
        if (random.nextInt(30) == 0) {
            return both("load()", x::load, model::load);
        }
        return both("firstError()", x::firstError, model::firstError);
    }

    private String[] anyQuestion() {
        int n = anyNode();
        int other = anyNode();
        int t = anyTranslator();
        int what = random.nextInt(15) - 2;
        int m = random.nextInt(random.nextBoolean() ? 2 : 11) - (random.nextInt(20) == 0 ? 1 : 0);
        switch (random.nextInt(5)) {
            case 0: return both("count(" + what + ")", () -> x.count(what), () -> model.count(what));
            case 1: return both("node(" + n + ", " + what + ")", () -> x.node(n, what), () -> model.node(n, what));
            case 2: return both("translator(" + t + ", " + what + ")", () -> x.translator(t, what),
                    () -> model.translator(t, what));
            case 3: return both("mapping(" + t + ", " + m + ", " + what + ")", () -> x.mapping(t, m, what),
                    () -> model.mapping(t, m, what));
            default: return both("common(" + n + ", " + other + ")", () -> x.common(n, other),
                    () -> model.common(n, other));
        }
    }
}
