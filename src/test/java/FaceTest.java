import java.io.IOException;
import java.lang.reflect.Constructor;
import java.lang.reflect.Field;
import java.lang.reflect.Method;
import java.lang.reflect.Modifier;
import java.nio.file.Files;
import java.nio.file.Path;
import java.util.Arrays;
import java.util.HashSet;
import java.util.Set;
import java.util.TreeSet;
import java.util.regex.Matcher;
import java.util.regex.Pattern;
import java.util.stream.Collectors;

/** The public face is the document's, and the source keeps to rules that can be seen in its text. */
public final class FaceTest {
    private static final String I = "IndexOutOfBoundsException";
    private static final String A = "IllegalArgumentException";
    private static final String S = "IllegalStateException";
    private static final String[] FACE = {
        "int begin() ",
        "int addHost(int) " + I + "," + S,
        "int addTranslator(int,int,int,int) " + I + "," + A + "," + S,
        "int setNumber(int,int,int) " + I + "," + A,
        "int pass(int) " + A + "," + S,
        "int save() ",
        "int restore() " + S,
        "int append(int) " + A + "," + S,
        "int clearBuffer() ",
        "int firstError() ",
        "int load() " + A,
        "int send(int,int,int,int) " + I + "," + A,
        "int reply(int) " + I + "," + S,
        "int keepAlive(int,int,int,int,int,int) " + I + "," + A + "," + S,
        "int punch(int,int,int,boolean) " + I + "," + A + "," + S,
        "int ifSent(int,int,int,int) " + I + "," + A,
        "int count(int) " + A,
        "int node(int,int) " + I + "," + A,
        "int translator(int,int) " + I + "," + A,
        "int mapping(int,int,int) " + I + "," + A,
        "int timeLeft(int,int,int,int) " + I + "," + A,
        "int common(int,int) " + I,
        "double delivery() ",
        "long digest() ",
    };
    /** What the language leaves out, and what could hide what the machine throws. */
    private static final String[] UNWANTED = {
        "import ", "package ", "->", "::", "\\btry\\b", "\\bcatch\\b", "\\bfinally\\b", "\\bsynchronized\\b",
        "\\bassert\\b", "\\bThread\\b", "\\bRandom\\b", "\\bObject\\b", "Math\\.\\w*Exact", "\\bvar\\b",
        "\\bstatic \\{", "\\btoString\\b", "\\bhashCode\\b", "\\bequals\\b", "System\\.(?!arraycopy)",
    };

    public static void main(String[] args) throws IOException {
        face();
        members();
        String text = Files.readString(Path.of(System.getenv("HOLE_PUNCHER_SOURCE")));
        String code = text.replaceAll("(?s)/\\*.*?\\*/", " ").replaceAll("//.*", " ").replaceAll("\"[^\"]*\"", "\"\"");
        for (String unwanted : UNWANTED) {
            Check.isTrue("the source has no " + unwanted, !Pattern.compile(unwanted).matcher(code).find());
        }
        Check.isTrue("the source is plain text", text.chars().allMatch(c -> c == '\n' || c >= 32 && c < 127));
        lengths(code);
        Check.end();
    }

    private static String names(Class<?>[] types) {
        return Arrays.stream(types).map(Class::getSimpleName).collect(Collectors.joining(","));
    }

    private static void face() {
        Set<String> found = new TreeSet<>();
        for (Method method : HolePuncher.class.getDeclaredMethods()) {
            if (!Modifier.isPrivate(method.getModifiers()) && !method.isSynthetic()) {
                Check.isTrue(method + " is public", Modifier.isPublic(method.getModifiers()));
                found.add(method.getReturnType() + " " + method.getName() + "(" + names(method.getParameterTypes())
                        + ") " + names(method.getExceptionTypes()));
            }
        }
        Set<String> wanted = new TreeSet<>(Arrays.asList(FACE));
        Set<String> missing = new TreeSet<>(wanted);
        missing.removeAll(found);
        found.removeAll(wanted);
        Check.isTrue("missing methods " + missing, missing.isEmpty());
        Check.isTrue("other methods " + found, found.isEmpty());
        Constructor<?>[] constructors = HolePuncher.class.getDeclaredConstructors();
        Check.due("constructors", constructors.length, 1);
        Check.due("its parameters", constructors[0].getParameterCount(), 0);
        Check.isTrue("it is public", Modifier.isPublic(constructors[0].getModifiers()));
        Check.isTrue("the class is final", Modifier.isFinal(HolePuncher.class.getModifiers()));
    }

    private static void members() {
        Set<String> publicNames = new HashSet<>();
        for (Method method : HolePuncher.class.getMethods()) {
            publicNames.add(method.getName());
        }
        for (Method method : HolePuncher.class.getDeclaredMethods()) {
            boolean isPrivate = Modifier.isPrivate(method.getModifiers());
            Check.isTrue(method + " has a name of its own", !isPrivate || !publicNames.contains(method.getName()));
        }
        for (Field field : HolePuncher.class.getDeclaredFields()) {
            boolean isFace = field.getName().equals("NONE");
            Check.isTrue(field + " is private", Modifier.isPrivate(field.getModifiers()) != isFace);
        }
        Class<?>[] inner = HolePuncher.class.getDeclaredClasses();
        Check.isTrue("at most twelve classes", inner.length < 12);
        for (Class<?> each : inner) {
            Check.isTrue(each + " is static and private", Modifier.isStatic(each.getModifiers())
                    && Modifier.isPrivate(each.getModifiers()));
            checkFields(each);
            for (Method method : each.getDeclaredMethods()) {
                Check.isTrue(method + " has a name of its own", !publicNames.contains(method.getName()));
                Check.isTrue(method + " has at most seven parameters", method.getParameterCount() <= 7);
            }
        }
        checkFields(HolePuncher.class);
    }

    private static void checkFields(Class<?> each) {
        int fields = 0;
        for (Field field : each.getDeclaredFields()) {
            if (Modifier.isStatic(field.getModifiers())) {
                Check.isTrue(field + " is final", Modifier.isFinal(field.getModifiers()));
            } else {
                fields++;
            }
        }
        Check.isTrue(each + " has at most twenty fields", fields <= 20);
    }

    /** No method is longer than sixty lines. */
    private static void lengths(String code) {
        String[] lines = code.split("\n");
        Pattern head = Pattern.compile("^( {4}| {8})\\w[\\w\\[\\] ]*\\b(\\w+)\\(.*");
        for (int i = 0; i < lines.length; i++) {
            Matcher matcher = head.matcher(lines[i]);
            if (matcher.matches()) {
                String closing = matcher.group(1) + "}";
                int end = i;
                while (end < lines.length - 1 && !lines[end].equals(closing)) {
                    end++;
                }
                boolean isMethod = lines[i].endsWith("{") || i + 1 < lines.length && lines[i + 1].contains("throws ");
                Check.isTrue(matcher.group(2) + " is short", !isMethod || end - i <= 60);
            }
        }
    }
}
