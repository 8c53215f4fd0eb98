import java.util.function.LongSupplier;

/** What the tests of the project have in common: they count answers that are not the due ones. */
final class Check {
    private static int done = 0;
    private static int wrong = 0;
    private static String sentence = "";
    private static int doneBeforeSentence = 0;

    private Check() {
    }

    /** The sentence of the document that the answers from here on are about. */
    static void sentence(String text) {
        endSentence();
        sentence = text;
        doneBeforeSentence = done;
    }

    private static void endSentence() {
        if (!sentence.isEmpty() && done == doneBeforeSentence) {
            fail("nothing was tested");
        }
        sentence = "";
    }

    private static void fail(String message) {
        wrong++;
        System.out.println(sentence.isEmpty() ? message : "\"" + sentence + "\": " + message);
    }

    static void due(String what, long got, long want) {
        done++;
        if (got != want) {
            fail(what + " answered " + got + ", due is " + want);
        }
    }

    static void dueDouble(String what, double got, double want) {
        done++;
        if (Double.compare(got, want) != 0) {
            fail(what + " answered " + got + ", due is " + want);
        }
    }

    static void dueText(String what, String got, String want) {
        done++;
        if (!got.equals(want)) {
            fail(what + " answered " + got + ", due is " + want);
        }
    }

    static void isTrue(String what, boolean holds) {
        due(what, holds ? 1 : 0, 1);
    }

    /** The call throws exactly this exception, and changes nothing that can be asked for. */
    static void refuses(String what, HolePuncher x, Class<?> kind, LongSupplier call) {
        long before = x.digest();
        dueText(what, answer(call), kind.getSimpleName());
        due(what + ": the digest after it", x.digest(), before);
    }

    /** What a call returns, or the name of what it throws. */
    static String answer(LongSupplier call) {
        try {
            return Long.toString(call.getAsLong());
        } catch (RuntimeException e) {
            return e.getClass().getSimpleName();
        }
    }

    static void type(HolePuncher x, String text) {
        for (int i = 0; i < text.length(); i++) {
            x.append(text.charAt(i));
        }
    }

    static HolePuncher network(String text) {
        HolePuncher x = new HolePuncher();
        type(x, text);
        x.load();
        return x;
    }

    static void passTo(HolePuncher x, int tick) {
        while (x.count(2) < tick) {
            x.pass(Math.min(1000, tick - x.count(2)));
        }
    }

    static long hash(long... values) {
        long hash = 1973;
        for (long value : values) {
            hash = 31 * hash + value;
        }
        return hash;
    }

    static void end() {
        endSentence();
        System.out.println(done + " answers, " + wrong + " of them not as due");
        if (wrong != 0 || done == 0) {
            System.exit(1);
        }
    }
}
