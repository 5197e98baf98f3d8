import java.io.IOException;
import java.lang.reflect.Method;
import java.lang.reflect.Modifier;
import java.nio.charset.StandardCharsets;
import java.nio.file.Files;
import java.nio.file.Path;
import java.util.Set;
import java.util.TreeSet;
import java.util.regex.Matcher;
import java.util.regex.Pattern;

/** README.md shows each method of the face, and each call that it shows answers what stands behind it. */
public final class ReadmeTest {
    private static final Path README = Path.of("README.md");
    private static final String MAKES = "DeedCourt court = new DeedCourt();";
    private static final Pattern BLOCK = Pattern.compile("(?s)```java\n(.*?)```");
    private static final Pattern CALL = Pattern.compile("court\\.(\\w+)\\((.*)\\); *// (-?\\d+)(:.*|)");
    private static final Pattern SAYS = Pattern.compile("say\\(court, \"(.*)\"\\); *// (-?\\d+)(:.*|)");

    private static int wrong = 0;
    private static int calls = 0;

    private ReadmeTest() {
    }

    public static void main(String[] args) throws IOException, ReflectiveOperationException {
        Set<String> shown = new TreeSet<>(Set.of("feed", "deed"));
        Matcher blocks = BLOCK.matcher(Files.readString(README, StandardCharsets.UTF_8));
        while (blocks.find()) {
            if (blocks.group(1).startsWith(MAKES)) {
                run(blocks.group(1).split("\n"), shown);
            }
        }
        for (Method method : DeedCourt.class.getDeclaredMethods()) {
            boolean isShown = !Modifier.isPublic(method.getModifiers()) || shown.contains(method.getName());
            expect(isShown, "README.md doesn't show " + method.getName());
        }
        System.out.println("ReadmeTest: " + calls + " calls, " + wrong + " wrong");
        if (wrong != 0) {
            System.exit(1);
        }
    }

    private static void expect(boolean fine, String what) {
        if (!fine) {
            wrong++;
            System.out.println(what);
        }
    }

    private static void run(String[] lines, Set<String> shown) throws ReflectiveOperationException {
        DeedCourt court = new DeedCourt();
        for (int i = 1; i < lines.length; i++) {
            Matcher call = CALL.matcher(lines[i]);
            Matcher says = SAYS.matcher(lines[i]);
            calls++;
            if (says.matches()) {
                long got = Due.deed(court, says.group(1));
                expect(got == Long.parseLong(says.group(2)), "it answers " + got + ": " + lines[i]);
            } else if (call.matches()) {
                shown.add(call.group(1));
                long got = answer(court, call.group(1), call.group(2));
                expect(got == Long.parseLong(call.group(3)), "it answers " + got + ": " + lines[i]);
            } else {
                expect(false, "no call with an answer: " + lines[i]);
            }
        }
    }

    private static long answer(DeedCourt court, String name, String text) throws ReflectiveOperationException {
        String[] given = text.isEmpty() ? new String[0] : text.split(", ");
        for (Method method : DeedCourt.class.getDeclaredMethods()) {
            if (method.getName().equals(name) && method.getParameterCount() == given.length) {
                Object[] arguments = new Object[given.length];
                for (int a = 0; a < given.length; a++) {
                    arguments[a] = argument(method.getParameterTypes()[a], given[a]);
                }
                return ((Number) method.invoke(court, arguments)).longValue();
            }
        }
        expect(false, "no such method: " + name);
        return 0;
    }

    private static Object argument(Class<?> type, String given) {
        if (type == boolean.class) {
            return Boolean.parseBoolean(given);
        }
        return type == long.class ? (Object) Long.parseLong(given) : (Object) Integer.parseInt(given);
    }
}
