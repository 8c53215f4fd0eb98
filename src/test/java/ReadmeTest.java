import java.io.IOException;
import java.nio.file.Files;
import java.nio.file.Path;
import java.util.regex.Matcher;
import java.util.regex.Pattern;

/** The example of README.md: each of its calls is made here, and answers what stands behind it there. */
public final class ReadmeTest {
    private static final Pattern CALL = Pattern.compile("(?:int \\w+ = )?(net\\..*;) +// (-?\\d+)\\b.*");
    private static String[] lines;
    private static int place = 0;

    public static void main(String[] args) throws IOException {
        String readme = Files.readString(Path.of(System.getenv("HOLE_PUNCHER_README")));
        Matcher block = Pattern.compile("(?s)```java\n(.*?)```").matcher(readme);
        Check.isTrue("README.md has an example", block.find());
        lines = block.group(1).split("\n");
        Check.dueText("its first line", lines[place++], "HolePuncher net = new HolePuncher();");
        HolePuncher net = new HolePuncher();
        int server = net.addHost(HolePuncher.NONE);
        next("net.addHost(HolePuncher.NONE);", server);
        int first = net.addTranslator(HolePuncher.NONE, 0, 2, 0);
        next("net.addTranslator(HolePuncher.NONE, 0, 2, 0);", first);
        int a = net.addHost(first);
        next("net.addHost(first);", a);
        int second = net.addTranslator(HolePuncher.NONE, 0, 2, 0);
        next("net.addTranslator(HolePuncher.NONE, 0, 2, 0);", second);
        int b = net.addHost(second);
        next("net.addHost(second);", b);
        next("net.send(a, 500, second, 500);", net.send(a, 500, second, 500));
        next("net.punch(a, b, server, false);", net.punch(a, b, server, false));
        next("net.send(a, 500, second, 500);", net.send(a, 500, second, 500));
        next("net.node(b, 4);", net.node(b, 4));
        next("net.reply(b);", net.reply(b));
        next("net.timeLeft(a, 500, second, 500);", net.timeLeft(a, 500, second, 500));
        next("net.pass(61);", net.pass(61));
        next("net.send(b, 500, first, 500);", net.send(b, 500, first, 500));
        Check.due("all lines", place, lines.length);
        sameAsText(readme);
        Check.end();
    }

    private static void next(String call, int answer) {
        Matcher line = CALL.matcher(place < lines.length ? lines[place] : "");
        place++;
        boolean isCall = line.matches();
        Check.dueText("the line " + place, isCall ? line.group(1) : "no call", call);
        if (isCall) {
            Check.due(call, answer, Long.parseLong(line.group(2)));
        }
    }

    private static void sameAsText(String readme) {
        String text = "ht020(h)t020(h)";
        Check.isTrue("README.md has the text", readme.contains("`" + text + "`"));
        HolePuncher net = Check.network(text);
        Check.due("the same network", net.punch(2, 4, 0, false), 2);
    }
}
