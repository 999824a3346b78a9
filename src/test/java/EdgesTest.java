import java.lang.reflect.InvocationTargetException;
import java.lang.reflect.Method;
import java.lang.reflect.Modifier;
import java.nio.charset.StandardCharsets;
import java.util.Arrays;

/** Every call with edges as its arguments, each with each: answered as Oracle answers, and refused by a throw of the class itself. */
public final class EdgesTest {
    private static final int[] EDGES = {Integer.MIN_VALUE, -1, 0, 1, 5, 6, 40, 41, 95, 96, Integer.MAX_VALUE};
    // Calls of many arguments take fewer edges, so that the couples of all stay few.
    private static final int[] FEWER = {Integer.MIN_VALUE, -1, 0, 40, 95, Integer.MAX_VALUE};
    private static final String[] ISLANDS = {
        "",
        "sands 3 1;walk 2 5 0 0;",
        "sands 9 7;ebb 6;wait 20;fog 9 9 9 9;moves -2 2;quick 0 0;quick 8 6;water tick/9+day-wind;ladder 1 3;"
            + "walk 1 0 0 0;horse 4 9 6 20;stilts 2 1 3 0;run 3 2 3 1;run 1 0 3 2;walk 1 1 3 3;quarrel 0 5;"};
    private static int checked;
    private static int wrong;

    private final EbbIsland made = new EbbIsland();
    private final Oracle due = new Oracle();

    public static void main(String[] args) {
        for (String text : ISLANDS) {
            for (Method method : EbbIsland.class.getDeclaredMethods()) {
                if (Modifier.isPublic(method.getModifiers())) {
                    new EdgesTest().tryAll(text, method);
                }
            }
        }
        System.out.println("EdgesTest: " + checked + " checks, " + wrong + " wrong");
        System.exit(wrong == 0 ? 0 : 1);
    }

    private void tryAll(String text, Method method) {
        tell(text);
        for (int party = 0; party < due.count(8); party++) {
            same("book", party, 20 + party / 3, 4);
        }
        same("sink", 0, 40, true);
        same("cross", 0, 0, 0);
        same("burials");
        same("image");
        Object[] given = new Object[method.getParameterCount()];
        tryFrom(method, given, 0);
    }

    private void tryFrom(Method method, Object[] given, int from) {
        if (from == given.length) {
            same(method.getName(), given);
            return;
        }
        if (method.getParameterTypes()[from] == boolean.class) {
            for (boolean edge : new boolean[] {false, true}) {
                given[from] = edge;
                tryFrom(method, given, from + 1);
            }
            return;
        }
        for (int edge : given.length < 4 ? EDGES : given.length == 4 ? FEWER : new int[] {-1, Integer.MAX_VALUE}) {
            given[from] = edge;
            tryFrom(method, given, from + 1);
        }
    }

    private void tell(String text) {
        byte[] bytes = Arrays.copyOf(text.getBytes(StandardCharsets.ISO_8859_1), (text.length() + 19) / 20 * 20);
        for (int i = 0; i < bytes.length; i += 20) {
            int[] f = new int[5];
            for (int k = 0; k < 20; k++) {
                f[k / 4] = f[k / 4] << 8 | bytes[i + k] & 255;
            }
            same("feed", f[0], f[1], f[2], f[3], f[4]);
        }
        same("island", text.length());
    }

    private void same(String name, Object... given) {
        String got = answer(made, name, given);
        String want = answer(due, name, given);
        checked++;
        if (!got.equals(want)) {
            wrong++;
            System.out.println(name + Arrays.toString(given) + " answered " + got + ", due is " + want);
        }
    }

    private static String answer(Object target, String name, Object[] given) {
        try {
            for (Method m : target.getClass().getDeclaredMethods()) {
                if (m.getName().equals(name) && m.getParameterCount() == given.length) {
                    m.setAccessible(true);
                    return String.valueOf(m.invoke(target, given));
                }
            }
        } catch (InvocationTargetException e) {
            return refusal(e.getCause());
        } catch (IllegalAccessException e) {
            throw new IllegalStateException(e);
        }
        throw new IllegalStateException(name);
    }

    /** What the machine or the library throws begins in another place than the class's own code, or bears another text. */
    private static String refusal(Throwable thrown) {
        StackTraceElement[] places = thrown.getStackTrace();
        String where = places.length == 0 ? "" : places[0].getClassName();
        boolean own = where.startsWith("EbbIsland") || where.startsWith("Oracle");
        return thrown.getClass().getName() + (own ? "" : " of " + where);
    }
}
