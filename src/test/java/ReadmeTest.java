import java.io.IOException;
import java.lang.reflect.InvocationTargetException;
import java.lang.reflect.Method;
import java.lang.reflect.Modifier;
import java.nio.file.Files;
import java.nio.file.Path;
import java.util.regex.Matcher;
import java.util.regex.Pattern;

/** README.md's island and the calls on it, which must answer as that page says, and show the whole face. */
public final class ReadmeTest extends Checks {
    private static final Pattern CALL = Pattern.compile("^x\\.(\\w+)\\(([^)]*)\\);(?: +// (-?\\w+).*)?$", Pattern.MULTILINE);

    public static void main(String[] args) throws IOException, ReflectiveOperationException {
        String page = Files.readString(Path.of(System.getProperty("ebb.readme", "README.md")));
        EbbIsland x = of(block(page, "```text\n"));
        Matcher calls = CALL.matcher(page);
        while (calls.find()) {
            String got = String.valueOf(answer(x, calls.group(1), calls.group(2)));
            due(calls.group(), got, calls.group(3) == null ? "null" : calls.group(3));
        }
        for (Method m : EbbIsland.class.getDeclaredMethods()) {
            if (Modifier.isPublic(m.getModifiers())) {
                due("README shows " + m.getName(), page.contains("x." + m.getName() + "("), true);
            }
        }
        end("ReadmeTest");
    }

    private static String block(String page, String fence) {
        int from = page.indexOf(fence) + fence.length();
        return page.substring(from, page.indexOf("```", from));
    }

    private static Object answer(EbbIsland x, String name, String given) throws ReflectiveOperationException {
        String[] texts = given.isEmpty() ? new String[0] : given.split(", ");
        Object[] values = new Object[texts.length];
        for (int i = 0; i < texts.length; i++) {
            values[i] = valueOf(texts[i]);
        }
        for (Method m : EbbIsland.class.getDeclaredMethods()) {
            if (m.getName().equals(name) && m.getParameterCount() == values.length) {
                try {
                    return m.invoke(x, values);
                } catch (InvocationTargetException e) {
                    return e.getCause();
                }
            }
        }
        return "no such call";
    }

    private static Object valueOf(String text) {
        if (text.equals("true") || text.equals("false")) {
            return Boolean.valueOf(text);
        }
        return text.equals("EbbIsland.NONE") ? NONE : Integer.parseInt(text);
    }
}
