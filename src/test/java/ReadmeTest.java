import java.io.IOException;
import java.lang.reflect.Method;
import java.lang.reflect.Modifier;
import java.nio.file.DirectoryStream;
import java.nio.file.Files;
import java.nio.file.Path;
import java.util.regex.Matcher;
import java.util.regex.Pattern;

/** README.md says what holds: its example is run, and every call and every test is named in it. */
public final class ReadmeTest {
    private static final Pattern EXAMPLE = Pattern.compile("^coast\\.(\\w+)\\(([^)]*)\\);\\s*// (-?\\d+|NONE): ");
    private static final Pattern TEXT = Pattern.compile("`(C[lbkvmt0-9]+)`");
    private static final int EXAMPLE_CALLS = 12;

    private static final Check CHECK = new Check("ReadmeTest");

    public static void main(String[] args) throws Exception {
        String page = Files.readString(Path.of("README.md"));
        example(page);
        text(page);
        names(page);
        CHECK.end();
    }

    private static void example(String page) throws Exception {
        LanternBoats coast = new LanternBoats();
        int calls = 0;
        for (String line : page.split("\n")) {
            Matcher call = EXAMPLE.matcher(line);
            if (call.find()) {
                long due = call.group(3).equals("NONE") ? LanternBoats.NONE : Long.parseLong(call.group(3));
                CHECK.due(line, due, answer(coast, call.group(1), call.group(2).split(", *")));
                calls++;
            }
        }
        CHECK.due("calls of the example", EXAMPLE_CALLS, calls);
    }

    private static long answer(LanternBoats coast, String name, String[] written) throws Exception {
        int count = written.length == 1 && written[0].isEmpty() ? 0 : written.length;
        for (Method m : LanternBoats.class.getDeclaredMethods()) {
            if (m.getName().equals(name) && Modifier.isPublic(m.getModifiers()) && m.getParameterCount() == count) {
                Object[] given = new Object[count];
                for (int i = 0; i < count; i++) {
                    given[i] = argument(written[i], m.getParameterTypes()[i]);
                }
                return (Integer) m.invoke(coast, given);
            }
        }
        throw new IllegalStateException("no such call: " + name);
    }

    private static Object argument(String written, Class<?> type) {
        if (type == long.class) {
            return Long.valueOf(written.replace("L", ""));
        }
        return Integer.valueOf(written);
    }

    /** "The same coast": two lighthouses and a boat as in the example, which is handed on behind 9 ticks too. */
    private static void text(String page) {
        Matcher written = TEXT.matcher(page);
        CHECK.holds("a coast as a text is there", written.find());
        LanternBoats coast = new LanternBoats();
        for (char c : written.group(1).toCharArray()) {
            coast.append(c);
        }
        LanternBoats made = new LanternBoats();
        made.light(0, 50, 0, 1, 6, 0);
        made.light(100, 50, 0, 1, 2, 1);
        made.boat(40, 2);
        CHECK.due("load()", 0, coast.load());
        for (int l = 0; l < 2; l++) {
            for (int what = 0; what <= 8; what++) {
                CHECK.due("lightOf(" + l + ", " + what + ")", made.lightOf(l, what), coast.lightOf(l, what));
            }
        }
        for (int what = 0; what <= 8; what++) {
            CHECK.due("boatOf(0, " + what + ")", made.boatOf(0, what), coast.boatOf(0, what));
        }
        for (int what = 0; what <= 9; what++) {
            CHECK.due("about(" + what + ")", made.about(what), coast.about(what));
        }
        CHECK.due("handedIn(0, 0)", 9, coast.handedIn(0, 0));
    }

    private static void names(String page) throws IOException {
        for (Method m : LanternBoats.class.getDeclaredMethods()) {
            if (Modifier.isPublic(m.getModifiers())) {
                CHECK.holds("the page names " + m.getName(), page.contains("`" + m.getName() + "`"));
            }
        }
        try (DirectoryStream<Path> tests = Files.newDirectoryStream(Path.of("src/test/java"), "*Test.java")) {
            for (Path test : tests) {
                String name = test.getFileName().toString().replace(".java", "");
                CHECK.holds("the page names " + name, page.contains("| `" + name + "` |"));
            }
        }
    }
}
