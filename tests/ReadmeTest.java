import java.lang.reflect.InvocationTargetException;
import java.lang.reflect.Method;
import java.lang.reflect.Modifier;
import java.nio.file.Files;
import java.nio.file.Path;
import java.util.regex.Matcher;
import java.util.regex.Pattern;

/** Each call in README.md answers what stands behind it there, and no call of the face is left out. */
public final class ReadmeTest {
    private static final Pattern CALL = Pattern.compile("x\\.(\\w+)\\(([-\\d, ]*)\\); +// (-?\\d+).*");
    private static final Pattern FEED = Pattern.compile(
            "for \\(char letter : \"(.*)\"\\.toCharArray\\(\\)\\) x\\.feed\\(letter\\);");

    private static NeverLike x;

    private ReadmeTest() {
    }

    public static void main(String[] args) throws Exception {
        String readme = Files.readString(Path.of("README.md"));
        examples(readme);
        for (Method method : NeverLike.class.getDeclaredMethods()) {
            if (Modifier.isPublic(method.getModifiers())) {
                Check.due("README.md tells of " + method.getName(), readme.contains("`" + method.getName() + "`"));
            }
        }
        Check.end("ReadmeTest");
    }

    private static void examples(String readme) throws Exception {
        boolean inside = false;
        int lines = 0;
        for (String line : readme.split("\n")) {
            if (line.startsWith("```")) {
                inside = line.equals("```java");
            } else if (inside) {
                lines++;
                Check.due("README.md: " + line + " is understood", example(line));
            }
        }
        Check.due("README.md has examples", lines > 0);
    }

    private static boolean example(String line) throws Exception {
        if (line.equals("NeverLike x = new NeverLike();")) {
            x = new NeverLike();
            return true;
        }
        Matcher feed = FEED.matcher(line);
        if (feed.matches()) {
            Check.feed(x, feed.group(1));
            return true;
        }
        Matcher call = CALL.matcher(line);
        if (!call.matches()) {
            return false;
        }
        Check.due("README.md: " + line, answer(call.group(1), call.group(2)), Long.parseLong(call.group(3)));
        return true;
    }

    private static long answer(String name, String numbers) throws IllegalAccessException, InvocationTargetException {
        String[] parts = numbers.isEmpty() ? new String[0] : numbers.split(", ");
        Object[] given = new Object[parts.length];
        for (int i = 0; i < parts.length; i++) {
            given[i] = Integer.parseInt(parts[i]);
        }
        for (Method method : NeverLike.class.getDeclaredMethods()) {
            if (method.getName().equals(name) && method.getParameterCount() == given.length) {
                return ((Number) method.invoke(x, given)).longValue();
            }
        }
        throw new IllegalStateException("there is no " + name);
    }
}
