import java.util.ArrayList;
import java.util.List;
import java.util.function.LongSupplier;
import java.util.function.Supplier;
import java.util.function.ToLongFunction;

/**
 * Refused calls and questions: what they throw or answer, and that they change nothing, also nothing
 * that only shows later (random numbers, contacts, the saved state). For that a twin on which the call
 * was not made is asked the same questions afterwards.
 */
final class Unchanged {
    private final String state;
    private final Supplier<HolePuncher> maker;

    Unchanged(String state, Supplier<HolePuncher> maker) {
        this.state = state;
        this.maker = maker;
    }

    void due(Class<?> kind, String call, ToLongFunction<HolePuncher> run) {
        unchanged(kind.getSimpleName(), call, run);
    }

    /** The same for a question, which answers a number. */
    void due(long number, String call, ToLongFunction<HolePuncher> run) {
        unchanged(Long.toString(number), call, run);
    }

    private void unchanged(String want, String call, ToLongFunction<HolePuncher> run) {
        HolePuncher x = maker.get();
        HolePuncher twin = maker.get();
        String name = call + " " + state;
        Check.dueText(name, Check.answer(() -> run.applyAsLong(x)), want);
        List<String> after = new Questions(x).all();
        List<String> without = new Questions(twin).all();
        Check.due(name + ": questions after it", after.size(), without.size());
        for (int i = 0; i < Math.min(after.size(), without.size()); i++) {
            if (!after.get(i).equals(without.get(i))) {
                Check.dueText(name + ": after it", after.get(i), without.get(i));
                return;
            }
        }
    }

    /** Asks for all that an object holds; in the end nothing of it is as it was. */
    private static final class Questions {
        private final HolePuncher x;
        private final List<String> answers = new ArrayList<>();

        Questions(HolePuncher x) {
            this.x = x;
        }

        List<String> all() {
            ask("delivery()", () -> Double.doubleToRawLongBits(x.delivery()));
            ask("firstError()", x::firstError);
            network();
            ask("restore()", x::restore);
            network();
            ask("load()", x::load);
            ask("digest()", x::digest);
            ask("clearBuffer()", x::clearBuffer);
            return answers;
        }

        private void ask(String name, LongSupplier call) {
            answers.add(name + " = " + Check.answer(call));
        }

        private void network() {
            ask("digest()", x::digest);
            int nodes = x.count(0);
            for (int i = 0; i < nodes; i++) {
                if (x.node(i, 0) == 1) {
                    contacts(i);
                }
            }
            for (int i = 0; i < nodes; i++) {
                if (x.node(i, 0) == 0) {
                    packetsFrom(i, nodes);
                }
            }
        }

        /** Which of the packets from a host beside the translator pass its filter. */
        private void contacts(int translator) {
            for (int m = 0; m < x.translator(translator, 7); m++) {
                int outerPort = x.mapping(translator, m, 2);
                for (int host = 0; host < x.count(0); host += 7) {
                    int source = host;
                    for (int port = 1; port <= 2; port++) {
                        int sourcePort = port;
                        ask("ifSent(" + source + ", " + port + ", " + translator + ", " + outerPort + ")",
                                () -> x.ifSent(source, sourcePort, translator, outerPort));
                    }
                }
            }
        }

        /** New mappings show the counters and the random numbers. */
        private void packetsFrom(int host, int nodes) {
            for (int i = 0; i < nodes; i++) {
                int node = i;
                ask("send(" + host + ", 711, " + node + ", 3)", () -> x.send(host, 711, node, 3));
            }
            ask("digest()", x::digest);
        }
    }

    // ---- states in which calls are refused

    static HolePuncher empty() {
        return new HolePuncher();
    }

    /**
     * The hosts 0, 2, 3, 6 and 7, the translators 1, 4 and 5, with mappings, contacts, deliveries, losses,
     * a saved state that differs, and an unfinished text. The tick is 5.
     */
    static HolePuncher rich() {
        return richFrom(0);
    }

    /** As rich, but with another tick; it is at least 5. */
    static HolePuncher richAt(int tick) {
        return richFrom(tick - 5);
    }

    private static HolePuncher richFrom(int tick) {
        HolePuncher x = Check.network("ht022(hh)t211(t120(h)h)");
        goTo(x, tick);
        x.setNumber(4, 0, 7);
        x.send(2, 500, 0, 1);
        x.send(6, 500, 0, 1);
        x.send(7, 501, 0, 2);
        x.pass(3);
        x.save();
        x.setNumber(4, 1, 70);
        x.send(3, 500, 0, 2);
        x.send(2, 500, 0, 2);
        x.send(6, 500, 0, 2);
        x.reply(0);
        x.send(0, 1, 2, 1);
        x.send(7, 1, 4, 1);
        x.pass(2);
        Check.type(x, "t000(h");
        return x;
    }

    /** Twenty thousand ticks a call, as an object has only 512 of them. */
    private static void goTo(HolePuncher x, int tick) {
        while (tick - x.count(2) >= 20000) {
            x.keepAlive(0, 9, 0, 9, 1000, 20);
        }
        Check.passTo(x, tick);
    }

    /** As rich, with 10 nodes: 8 is a host in the public net, 9 a host behind the translator 1. */
    static HolePuncher full() {
        HolePuncher x = rich();
        x.addHost(HolePuncher.NONE);
        x.addHost(1);
        return x;
    }
}
