import java.io.IOException;
import java.lang.reflect.InvocationTargetException;
import java.lang.reflect.Method;
import java.lang.reflect.Modifier;
import java.nio.file.Files;
import java.nio.file.Path;
import java.util.Set;
import java.util.TreeSet;
import java.util.regex.Matcher;
import java.util.regex.Pattern;

/** The example of README.md: each call answers what is told behind it, and no method is left out. */
public final class ReadmeTest {
    private static final Pattern CALL = Pattern.compile("c\\.(\\w+)\\((.*)\\); +// ([^:]+)(:.*)?");
    private static final String FIRST_LINE = "CrateCushions c = new CrateCushions();";

    public static void main(String[] args) throws IOException {
        String[] lines = example(Files.readString(Path.of("README.md"))).split("\n");
        Check.yes("the example begins with " + FIRST_LINE, lines[0].equals(FIRST_LINE));
        CrateCushions c = new CrateCushions();
        Set<String> seen = new TreeSet<>();
        for (int n = 1; n < lines.length; n++) {
            if (!lines[n].isEmpty()) {
                seen.add(callOf(c, lines[n]));
            }
        }
        for (Method method : CrateCushions.class.getDeclaredMethods()) {
            if (Modifier.isPublic(method.getModifiers())) {
                Check.yes("the example has " + method.getName(), seen.contains(method.getName()));
            }
        }
        Check.end("ReadmeTest");
    }

    private static String example(String readme) {
        String opening = "```java\n";
        int start = readme.indexOf(opening);
        int end = readme.indexOf("\n```", start + opening.length());
        return start < 0 || end < 0 ? "" : readme.substring(start + opening.length(), end);
    }

    private static String callOf(CrateCushions c, String line) {
        Matcher call = CALL.matcher(line);
        if (!call.matches()) {
            Check.fail("no call with an answer: " + line);
            return "";
        }
        Method method = methodNamed(call.group(1));
        if (method == null) {
            Check.fail("no such method: " + line);
            return "";
        }
        String got = answer(c, method, call.group(2));
        // A method without an answer has words behind it instead.
        if (method.getReturnType() != void.class || got.startsWith("throws.")) {
            Check.yes(line + " (answered " + got + ")", got.equals(call.group(3)));
        }
        return call.group(1);
    }

    private static Method methodNamed(String name) {
        for (Method method : CrateCushions.class.getDeclaredMethods()) {
            if (method.getName().equals(name) && Modifier.isPublic(method.getModifiers())) {
                return method;
            }
        }
        return null;
    }

    private static String answer(CrateCushions c, Method method, String written) {
        String[] texts = written.isEmpty() ? new String[0] : written.split(", ");
        Object[] values = new Object[texts.length];
        for (int n = 0; n < texts.length; n++) {
            values[n] = valueOf(texts[n]);
        }
        try {
            return String.valueOf(method.invoke(c, values));
        } catch (InvocationTargetException e) {
            return "throws." + e.getCause().getClass().getSimpleName();
        } catch (IllegalAccessException e) {
            return "throws." + e.getClass().getSimpleName();
        }
    }

    private static Object valueOf(String text) {
        if (text.equals("true") || text.equals("false")) {
            return Boolean.valueOf(text);
        }
        return text.startsWith("0b") ? Integer.valueOf(text.substring(2), 2) : Integer.valueOf(text);
    }
}
