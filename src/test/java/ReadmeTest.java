import java.io.IOException;
import java.lang.reflect.Method;
import java.lang.reflect.Modifier;
import java.nio.file.Files;
import java.nio.file.Path;
import java.util.Arrays;
import java.util.regex.Matcher;
import java.util.regex.Pattern;

/** README.md tells the truth: its example's answers, the numbers of its tables, and the name of every call. */
public final class ReadmeTest {
    private static final Pattern CALL = Pattern.compile("(?m)^x\\.(\\w+)\\(([-\\d, ]*)\\);\\s*// (-?\\d+): ");
    private static final Pattern ANY_CALL = Pattern.compile("(?m)^x\\.");
    private static final Pattern ROW = Pattern.compile("(?m)^\\| (\\d+) \\| [^|]+ \\| (\\d+) \\.\\. (\\d+) \\| (\\d+) \\|$");
    private static final int NUMBERS_OF_SET = 9, NUMBERS_OF_STORE = 5;
    private static final Sentences S = new Sentences();

    public static void main(String[] args) throws IOException, ReflectiveOperationException {
        String page = Files.readString(Path.of("README.md"));
        S.say("README: every call is named");
        for (Method m : WallStones.class.getDeclaredMethods()) {
            if (Modifier.isPublic(m.getModifiers())) {
                S.holds(m.getName(), page.contains("| `" + m.getName() + "("));
            }
        }
        S.say("README: behind each call of the example stands what it answers");
        example(between(page, "```java", "```"));
        S.say("README: the numbers of set()");
        table("set", NUMBERS_OF_SET, between(page, "| `set` what", "###"));
        S.say("README: the numbers of store()");
        table("store", NUMBERS_OF_STORE, between(page, "| `store` what", "##"));
        S.end();
    }

    /** The text behind a first mark, up to the next of a second; empty where a mark is not there. */
    private static String between(String page, String first, String second) {
        int from = page.indexOf(first);
        int to = from < 0 ? -1 : page.indexOf(second, from + first.length());
        return to < 0 ? "" : page.substring(from + first.length(), to);
    }

    private static void example(String text) throws ReflectiveOperationException {
        WallStones x = new WallStones();
        int read = 0;
        for (Matcher m = CALL.matcher(text); m.find(); read++) {
            int[] a = Arrays.stream(m.group(2).split(",")).map(String::trim).filter(s -> !s.isEmpty())
                    .mapToInt(Integer::parseInt).toArray();
            S.due(m.group(1) + Arrays.toString(a), ask(x, m.group(1), a), Long.parseLong(m.group(3)));
        }
        S.due("calls that could be read", read, ANY_CALL.matcher(text).results().count());
        S.holds("there is an example", read > 0);
    }

    private static long ask(WallStones x, String name, int... a) throws ReflectiveOperationException {
        Class<?>[] ints = new Class<?>[a.length];
        Arrays.fill(ints, int.class);
        Object[] told = Arrays.stream(a).boxed().toArray();
        return ((Number) WallStones.class.getMethod(name, ints).invoke(x, told)).longValue();
    }

    private static void table(String name, int rows, String text) throws ReflectiveOperationException {
        WallStones x = new WallStones();
        int read = 0;
        for (Matcher m = ROW.matcher(text); m.find(); read++) {
            int what = Integer.parseInt(m.group(1));
            int least = Integer.parseInt(m.group(2));
            int most = Integer.parseInt(m.group(3));
            S.due(name + " row", what, read);
            S.due(name + "(" + what + ", too small)", ask(x, name, what, least - 1), -1);
            S.due(name + "(" + what + ", too large)", ask(x, name, what, most + 1), -1);
            S.due(name + "(" + what + ", least)", ask(x, name, what, least), Long.parseLong(m.group(4)));
            S.due(name + "(" + what + ", most)", ask(x, name, what, most), least);
        }
        S.due(name + ": rows", read, rows);
    }
}
