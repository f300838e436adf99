import java.io.IOException;
import java.lang.reflect.Method;
import java.nio.file.Files;
import java.nio.file.Path;
import java.util.List;
import java.util.Set;
import java.util.TreeSet;
import java.util.regex.Matcher;
import java.util.regex.Pattern;

/** Runs each call that README.md shows, one behind the other, and holds it against the answer told there. */
final class ReadmeTest {
    private static final Pattern CALL = Pattern.compile("v\\.(\\w+)\\((.*?)\\);\\s*// (-?\\d+)(:?\\s.*)?");
    private static final Pattern FED = Pattern.compile("feed\\(v, \"(.*)\"\\);\\s*// (-?\\d+)(:?\\s.*)?");
    private static final String NEW = "BurstValley v = new BurstValley();";
    private static final String FEED_FROM = "static int feed(BurstValley v, String text) {";

    private static BurstValley v;
    private static final Set<String> shown = new TreeSet<>();

    public static void main(String[] args) throws Exception {
        List<String> lines = Files.readAllLines(Path.of("README.md"));
        boolean isJava = false;
        for (String line : lines) {
            if (line.startsWith("```")) {
                isJava = line.equals("```java");
            } else if (isJava) {
                run(line);
            }
        }
        allCallsAreShown();
        feedIsAsShown(lines);
        Check.finish("ReadmeTest");
    }

    private static void run(String line) throws Exception {
        Matcher call = CALL.matcher(line);
        Matcher fed = FED.matcher(line);
        if (line.startsWith(NEW)) {
            v = new BurstValley();
        } else if (call.matches()) {
            shown.add(call.group(1));
            Check.due("README: " + line, answer(call.group(1), call.group(2)), Integer.parseInt(call.group(3)));
        } else if (fed.matches()) {
            shown.add("feed");
            Check.due("README: " + line, feed(v, fed.group(1)), Integer.parseInt(fed.group(2)));
        } else {
            Check.isTrue("README has no call of a form that isn't run: " + line,
                    !line.startsWith("v.") && !line.startsWith("feed("));
        }
    }

    private static int answer(String name, String arguments) throws Exception {
        String[] parts = arguments.isEmpty() ? new String[0] : arguments.split(", ");
        for (Method method : BurstValley.class.getMethods()) {
            if (method.getName().equals(name) && method.getDeclaringClass() == BurstValley.class
                    && method.getParameterCount() == parts.length) {
                Object[] values = new Object[parts.length];
                for (int i = 0; i < parts.length; i++) {
                    values[i] = value(parts[i], method.getParameterTypes()[i]);
                }
                return (Integer) method.invoke(v, values);
            }
        }
        throw new IllegalStateException("README shows a call that isn't there: " + name);
    }

    private static Object value(String text, Class<?> type) {
        if (type == boolean.class) {
            return Boolean.valueOf(text);
        }
        if (type == long.class) {
            return Long.decode(text.replace("L", ""));
        }
        return text.startsWith("0b") ? Integer.parseInt(text.substring(2), 2) : Integer.parseInt(text);
    }

    private static void allCallsAreShown() {
        for (Method method : BurstValley.class.getMethods()) {
            if (method.getDeclaringClass() == BurstValley.class) {
                Check.isTrue("README shows " + method.getName(), shown.contains(method.getName()));
            }
        }
    }

    private static void feedIsAsShown(List<String> readme) throws IOException {
        List<String> own = Files.readAllLines(Path.of("src/test/java/ReadmeTest.java"));
        Check.isTrue("feed() of README is that of this test", body(readme).equals(body(own)));
    }

    private static String body(List<String> lines) {
        StringBuilder text = new StringBuilder();
        boolean isIn = false;
        for (String line : lines) {
            String bare = line.replace("private static", "static").strip();
            isIn |= bare.equals(FEED_FROM);
            if (isIn) {
                text.append(bare).append('\n');
            }
            if (bare.equals("return has;")) {
                isIn = false;
            }
        }
        return text.toString();
    }

    private static int feed(BurstValley v, String text) {
        int has = v.many(14);
        for (int from = 0; from < text.length(); from += 8) {
            int n = Math.min(8, text.length() - from);
            long eight = 0;
            for (int i = 0; i < n; i++) {
                eight |= (text.charAt(from + i) & 255L) << 8 * i;
            }
            has = v.feed(eight, n);
        }
        return has;
    }
}
