import java.io.IOException;
import java.nio.charset.StandardCharsets;
import java.nio.file.Files;
import java.nio.file.Path;
import java.util.NoSuchElementException;

/** What the tests of the document's words share: how an island is told, and how an answer is compared with what is due. */
abstract class Checks {
    static final int NONE = EbbIsland.NONE;
    static final int LEAST = Integer.MIN_VALUE;
    static final int MOST = Integer.MAX_VALUE;
    private static int checked;
    private static int wrong;
    private static String subject = "";
    private static final String DOCUMENT = document();

    interface Call {
        long answer();
    }

    /** Runs the test of some words of the document; the words must stand there, so that they stay as they are read. */
    static void says(String words, Runnable test) {
        subject = "'" + words + "'";
        if (!DOCUMENT.isEmpty() && !DOCUMENT.contains(words)) {
            fail("the document doesn't say so");
        }
        int before = checked;
        test.run();
        if (checked == before) {
            fail("nothing is checked");
        }
    }

    static void end(String name) {
        System.out.println(name + ": " + checked + " checks, " + wrong + " wrong");
        System.exit(wrong == 0 ? 0 : 1);
    }

    private static String document() {
        String path = System.getProperty("ebb.document", "");
        try {
            return path.isEmpty() ? "" : Files.readString(Path.of(path)).replaceAll("\\s+", " ");
        } catch (IOException e) {
            throw new IllegalStateException(e);
        }
    }

    private static void fail(String what) {
        wrong++;
        System.out.println(subject + ": " + what);
    }

    static void due(String what, long got, long want) {
        checked++;
        if (got != want) {
            fail(what + " answered " + got + ", due is " + want);
        }
    }

    static void due(String what, boolean got, boolean want) {
        due(what, got ? 1 : 0, want ? 1 : 0);
    }

    static void due(String what, String got, String want) {
        checked++;
        if (!got.equals(want)) {
            fail(what + " answered " + got + ", due is " + want);
        }
    }

    static void noSuch(String what, Call call) {
        refused(what, NoSuchElementException.class, call);
    }

    static void illegal(String what, Call call) {
        refused(what, IllegalArgumentException.class, call);
    }

    private static void refused(String what, Class<? extends RuntimeException> kind, Call call) {
        String got;
        try {
            got = String.valueOf(call.answer());
        } catch (RuntimeException e) {
            got = e.getClass().getName();
        }
        due(what, got, kind.getName());
    }

    /** Feeds a text; what fills its last twenty bytes would be a fault, if it were read. */
    static void feed(EbbIsland x, String text) {
        byte[] bytes = text.getBytes(StandardCharsets.ISO_8859_1);
        for (int i = 0; i < bytes.length; i += 20) {
            int[] f = new int[5];
            for (int k = 0; k < 20; k++) {
                int b = i + k < bytes.length ? bytes[i + k] & 255 : '#';
                f[k / 4] = f[k / 4] << 8 | b;
            }
            x.feed(f[0], f[1], f[2], f[3], f[4]);
        }
    }

    static int tell(EbbIsland x, String text) {
        feed(x, text);
        return x.island(text.length());
    }

    static EbbIsland of(String text) {
        EbbIsland x = new EbbIsland();
        holds(x, text);
        return x;
    }

    static void holds(EbbIsland x, String text) {
        due("island of " + text, tell(x, text), 0);
        due("fault of " + text, x.fault(), NONE);
        due("status of " + text, x.count(13), 0);
    }

    static void holds(String text) {
        of(text);
    }

    static void faulty(String text, int number, int place) {
        EbbIsland x = new EbbIsland();
        due("island of " + text, tell(x, text), number);
        due("fault of " + text, x.fault(), place);
        due("status of " + text, x.count(13), 1);
    }

    /** n lines of marks, two in each row of the sands, from a column on. */
    static String marks(String word, int n, int column) {
        StringBuilder b = new StringBuilder();
        for (int i = 0; i < n; i++) {
            b.append(word).append(' ').append(column + i % 2).append(' ').append(i / 2).append(';');
        }
        return b.toString();
    }

    static void worth(String expr, int day, int tick, int want) {
        due("water " + expr, of("wind 6;water " + expr + ";").water(day, tick), want);
    }

    static void worth(String expr, int want) {
        worth(expr, 0, 0, want);
    }

    /** All that can be seen of an object without changing it. */
    static String look(EbbIsland x) {
        StringBuilder b = new StringBuilder();
        for (int what = 0; what < 24; what++) {
            b.append(what > 15 && what < 20 ? 0 : x.count(what)).append(' ');
        }
        b.append("fault ").append(x.fault()).append(" way");
        try {
            for (int i = NONE; i < x.way(NONE); i++) {
                b.append(' ').append(x.way(i));
            }
        } catch (NoSuchElementException e) {
            b.append(" none");
        }
        for (int i = 0; i < x.count(10); i++) {
            b.append(" booked");
            for (int what = 0; what < 4; what++) {
                b.append(' ').append(x.booked(i, what));
            }
        }
        for (int party = 0; party < x.count(8); party++) {
            try {
                b.append(" buried ").append(x.buried(party));
            } catch (NoSuchElementException e) {
                b.append("none");
            }
        }
        return b.append(" motions ").append(x.motions(0)).append(' ').append(x.motions(1)).toString();
    }
}
