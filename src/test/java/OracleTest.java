import java.lang.reflect.InvocationTargetException;
import java.lang.reflect.Method;
import java.nio.charset.StandardCharsets;
import java.util.ArrayList;
import java.util.Arrays;
import java.util.List;
import java.util.Random;

/** Runs of drawn calls on drawn islands, each answered by EbbIsland and by Oracle: both must agree. */
public final class OracleTest {
    private static final String[] CALLS = {
        "count", "cell", "quick", "water", "party", "may", "cross", "cross", "way", "way", "starts", "book", "book", "book",
        "undo", "booked", "at", "at", "met", "met", "crowded", "leave", "burials", "buried", "queue", "heir", "sink",
        "sink", "forget", "motions", "sound", "late", "costs", "vigil", "rents", "warning", "fogs", "image", "restore",
        "fault"};
    private final Random random;
    private final EbbIsland made = new EbbIsland();
    private final Oracle due = new Oracle();
    private final List<String> log = new ArrayList<>();
    private int wrong;
    private int cells = 24;
    private int parties;
    private int busyDay;
    private int busyTick;

    private OracleTest(long seed) {
        random = new Random(seed);
    }

    public static void main(String[] args) {
        int runs = Integer.getInteger("ebb.runs", 250);
        long base = Long.getLong("ebb.seed", 1);
        int wrong = 0;
        for (long seed = base; seed < base + runs && wrong == 0; seed++) {
            OracleTest test = new OracleTest(seed);
            test.run();
            wrong += test.wrong;
            if (test.wrong > 0) {
                System.out.println("seed " + seed);
                test.log.forEach(System.out::println);
            }
        }
        for (long seed = base; seed < base + 60L * runs && wrong == 0; seed++) {
            OracleTest test = new OracleTest(-seed);
            test.readFaulty();
            wrong += test.wrong;
            if (test.wrong > 0) {
                System.out.println("faulty seed " + seed);
                test.log.forEach(System.out::println);
            }
        }
        System.out.println("OracleTest: " + (wrong == 0 ? "both agree" : wrong + " answers differ"));
        System.exit(wrong == 0 ? 0 : 1);
    }

    private int below(int n) {
        return random.nextInt(n);
    }

    private boolean in(int percent) {
        return below(100) < percent;
    }

    private void run() {
        int islands = 1 + below(3);
        for (int k = 0; k < islands && wrong == 0; k++) {
            if (in(90)) {
                tell(in(60) ? text() : narrowText());
            }
            for (int i = 0; i < 60 && wrong == 0; i++) {
                drawCall();
            }
            if (in(30)) {
                tell(mutated(text()));
            }
            for (int i = 0; i < 15 && wrong == 0; i++) {
                drawCall();
            }
        }
    }

    private void readFaulty() {
        for (int i = 0; i < 3 && wrong == 0; i++) {
            tell(mutated(text()));
            for (int k = 0; k < 5 && wrong == 0; k++) {
                call("count", below(24));
            }
            call("fault");
        }
        for (int i = 0; i < 10 && wrong == 0; i++) {
            call("water", below(41), below(96));
            call("cell", below(64), below(2));
            call("quick", below(64), below(41));
        }
    }

    private void tell(String text) {
        byte[] bytes = text.getBytes(StandardCharsets.ISO_8859_1);
        int n = Math.min(700, bytes.length);
        byte[] padded = Arrays.copyOf(bytes, (n + 19) / 20 * 20);
        Arrays.fill(padded, n, padded.length, (byte) (in(50) ? ' ' : 'x'));
        log.add("text " + text.replace("\n", "\\n"));
        for (int i = 0; i < padded.length; i += 20) {
            int[] f = new int[5];
            for (int k = 0; k < 20; k++) {
                f[k / 4] = f[k / 4] << 8 | padded[i + k] & 255;
            }
            call("feed", f[0], f[1], f[2], f[3], f[4]);
        }
        if (in(5)) {
            call("island", padded.length + 1 + below(5));
        }
        call("island", n);
        cells = due.count(0) * due.count(1);
        parties = due.count(8);
        busyDay = in(70) ? 4 + below(3) : 20;
        busyTick = in(60) ? below(4) : 44 + below(4);
    }

    private int day() {
        return in(3) ? below(60) - 10 : in(50) ? below(8) : below(41);
    }

    private int tick() {
        return in(3) ? below(130) - 20 : below(96);
    }

    private int cell() {
        return in(3) ? below(80) - 10 : below(cells);
    }

    private int party() {
        return in(3) || parties == 0 ? below(10) - 2 : below(parties);
    }

    private int what(int n) {
        return in(4) ? below(n + 6) - 3 : below(n);
    }

    private int bookedOne() {
        int n = due.count(10);
        return in(5) || n == 0 ? below(14) - 1 : below(n);
    }

    private void drawCall() {
        String name = CALLS[below(CALLS.length)];
        switch (name) {
            case "count" -> call(name, what(24));
            case "cell" -> call(name, cell(), what(2));
            case "quick" -> call(name, cell(), day());
            case "water" -> call(name, day(), tick());
            case "party" -> call(name, party(), what(6));
            case "may" -> call(name, party(), cell(), day(), tick());
            case "cross" -> crossAndWalk();
            case "book" -> bookAndWalk();
            case "late", "warning" -> call(name, party(), day(), tick());
            case "way" -> call(name, in(20) ? -1 : what(20));
            case "starts" -> call(name, party(), day(), what(4));
            case "booked" -> call(name, bookedOne(), what(4));
            case "at" -> call(name, bookedOne(), tick());
            case "met" -> call(name, bookedOne(), bookedOne());
            case "crowded", "leave" -> {
                int n = due.count(10);
                call(name, n > 0 && in(90) ? due.booked(below(n), 1) : day());
            }
            case "buried", "queue", "heir" -> call(name, party());
            case "sink" -> sinkSomewhere();
            case "motions" -> call(name, what(2));
            case "sound" -> call(name, day(), in(50));
            case "costs" -> call(name, party(), day(), tick(), in(5) ? random.nextInt() : below(60) - 2);
            case "vigil" -> call(name, party(), day(), tick(), what(4));
            case "rents" -> call(name, day(), tick(), what(2));
            case "fogs" -> call(name, party(), tick(), random.nextInt(), in(5) ? below(100) - 30 : below(41));
            default -> call(name);
        }
    }

    private void crossAndWalk() {
        call("cross", party(), day(), tick());
        for (int i = -1; i < 97 && in(98); i++) {
            call("way", i);
        }
    }

    /** Mostly on one day and close to one another, so that some meet. */
    private void bookAndWalk() {
        call("book", party(), in(85) ? busyDay : day(), in(80) ? busyTick + below(6) : tick());
        for (int i = 0; i < due.count(10); i++) {
            for (int t = busyTick; t < 96 && in(95); t++) {
                call("at", i, t);
            }
        }
    }

    /** Mostly what some motion could have brought, so that some motions go on to fit. */
    private void sinkSomewhere() {
        int day = day();
        int cell = cell();
        boolean sank = in(30);
        if (in(80) && day >= 0 && day <= 40 && cell >= 0 && cell < cells) {
            sank = due.quick(cell, day);
        }
        call("sink", cell, day, sank);
    }

    private void call(String name, Object... args) {
        Object got = answer(made, EbbIsland.class, name, args);
        Object want = answer(due, Oracle.class, name, args);
        log.add(name + Arrays.toString(args) + " -> " + got);
        if (!String.valueOf(got).equals(String.valueOf(want))) {
            wrong++;
            log.add("WRONG, due is " + want);
        }
    }

    private static Object answer(Object target, Class<?> type, String name, Object[] args) {
        try {
            for (Method m : type.getDeclaredMethods()) {
                if (m.getName().equals(name) && m.getParameterCount() == args.length) {
                    m.setAccessible(true);
                    return m.invoke(target, args);
                }
            }
        } catch (InvocationTargetException e) {
            return e.getCause().getClass().getName();
        } catch (IllegalAccessException e) {
            throw new IllegalStateException(e);
        }
        throw new IllegalStateException(name);
    }

    private String text() {
        StringBuilder b = new StringBuilder();
        int w = 6;
        int h = 4;
        if (in(85)) {
            w = 3 + below(7);
            h = 1 + below(7);
            b.append("sands ").append(w).append(' ').append(h).append(";");
        }
        int lines = below(26);
        int told = 0;
        for (int i = 0; i < lines; i++) {
            int x = below(w);
            int inner = 1 + below(w - 2);
            int y = below(h);
            switch (below(10)) {
                case 0, 1, 2 -> b.append("height ").append(x).append(' ').append(y).append(' ').append(below(10)).append(';');
                case 3 -> b.append("rock ").append(inner).append(' ').append(y).append(';');
                case 4, 5 -> b.append("ladder ").append(inner).append(' ').append(y).append(';');
                case 6 -> b.append("quick ").append(x).append(' ').append(y).append(";\n");
                default -> {
                    b.append(new String[] {"walk", "horse", "stilts", "run"}[below(4)]).append(' ').append(1 + below(in(80) ? 2 : 4));
                    b.append(' ').append(in(30) ? 0 : below(10)).append(' ').append(y).append(' ').append(below(in(60) ? 4 : 21)).append(';');
                    told++;
                    if (told > 1 && in(30)) {
                        b.append("quarrel ").append(below(told)).append(' ').append(below(told)).append(';');
                    }
                }
            }
        }
        once(b);
        return dropRepeats(b.toString());
    }

    /** A strait with ladders and many parties, in which they meet. */
    private String narrowText() {
        int w = 3 + below(4);
        int h = 1 + below(2);
        StringBuilder b = new StringBuilder("sands " + w + " " + h + ";ebb " + (3 + below(4)) + ";");
        for (int i = 0; i < 6; i++) {
            b.append(new String[] {"walk", "horse", "stilts", "run"}[below(4)]).append(' ').append(1 + below(3)).append(' ');
            b.append(below(4)).append(' ').append(below(h)).append(' ').append(below(5)).append(';');
        }
        for (int i = 0; i < 4; i++) {
            b.append("ladder ").append(1 + below(w - 2)).append(' ').append(below(h)).append(';');
        }
        return dropRepeats(b.toString());
    }

    private void once(StringBuilder b) {
        if (in(50)) {
            b.append("moves ").append(below(5) - 2).append(" ").append(below(5) - 2).append(';');
        }
        if (in(50)) {
            b.append("wind ").append(below(10)).append(';');
        }
        if (in(60)) {
            b.append("ebb ").append(1 + below(6)).append(';');
        }
        if (in(60)) {
            b.append("wait ").append(below(in(80) ? 7 : 21)).append(';');
        }
        if (in(50)) {
            b.append("fog ").append(below(10)).append(' ').append(below(4)).append(' ').append(below(4)).append(' ').append(1 + below(3)).append(';');
        }
        if (in(60)) {
            b.append("water ").append(in(50) ? tide() : expr(0)).append(';');
        }
    }

    private String tide() {
        String[] forms = {
            "hour/2+wind/3", "(tick/3+day*5)/4-wind", "12-hour+day/4", "(hour<6 or 17<hour)*9+wind/4",
            "tick/12", "(tick-40)*(tick-40)/200+day/10", "not(hour<3)*4+day/9", "8*(day/2*2=day)", "wind+hour/6", "3"};
        return forms[below(forms.length)];
    }

    private String expr(int depth) {
        int kind = depth > 5 ? below(2) : below(12);
        switch (kind) {
            case 0:
                return String.valueOf(below(in(80) ? 12 : 10000));
            case 1: case 2:
                return new String[] {"hour", "tick", "day", "wind"}[below(4)];
            case 3:
                return "(" + expr(depth + 1) + ")";
            case 4:
                return "not " + expr(depth + 1);
            default:
                String[] joints = {"+", "-", "*", "/", "<", "=", " and ", " or ", "/", "+"};
                return expr(depth + 1) + joints[below(joints.length)] + (in(40) ? "(" + expr(depth + 1) + ")" : expr(depth + 1));
        }
    }

    /** A line that can't be told twice of one place is left out the second time, to have more texts without a fault. */
    private String dropRepeats(String text) {
        StringBuilder out = new StringBuilder();
        for (String line : text.split(";")) {
            String more = out + line + ";";
            if (in(4) || new EbbIslandText(more).fault() == 0) {
                out.append(line).append(';');
            }
        }
        return out.toString();
    }

    /** What the oracle thinks of a text alone. */
    private record EbbIslandText(String text) {
        int fault() {
            try {
                new Oracle.Parser(text.getBytes(StandardCharsets.ISO_8859_1)).parse();
                return 0;
            } catch (Oracle.Fault f) {
                return f.number;
            }
        }
    }

    private String mutated(String text) {
        StringBuilder b = new StringBuilder(text);
        String[] pieces = {
            "sands 5 5;", "rock", "ladder 1 0;", "quick 0 0;", ";", "(", ")", "((((((1))))))", "(((((1)))))", "not ",
            "not not not not not not not 1", "not not not not not not 0", "12345", "00001", "9999", "-", "+", "*", "/", "<", "=", "or", "and",
            "hour", "water 1+", "water ", "wind 3;", "ebb 7;", "wait 21;", "fog 0 0 0 0;", "fog 1 2 3 4;", "quarrel 0 1;", "quarrel 1 0;",
            "quarrel 1 1;", "quarrel 9 0;", "walk 1 1 0 0;", "run 5 0 0 0;", "moves -3 0;", "moves - 1 2;", "height 0 0 3;", "x", "A", "\t",
            "\u00e9", "0", "1", "7", "11", " ", "\n", "or or", "1<2<3", "((((((", "((((((or", "((((((;", "(((((( 12345", "1 not", "+not 1",
            "<not 1", "rock 1 0;rock 1 0;", "ladder 0 0;", "height 1 0 3;height 1 0 4;"};
        int changes = 1 + below(3);
        for (int i = 0; i < changes; i++) {
            int at = below(b.length() + 1);
            switch (below(4)) {
                case 0 -> b.insert(at, pieces[below(pieces.length)]);
                case 1 -> b.delete(at, Math.min(b.length(), at + 1 + below(4)));
                case 2 -> {
                    int semi = b.indexOf(";", at);
                    b.insert(semi < 0 ? b.length() : semi + 1, pieces[below(pieces.length)]);
                }
                default -> {
                    if (at < b.length()) {
                        b.setCharAt(at, pieces[below(pieces.length)].charAt(0));
                    }
                }
            }
        }
        if (in(10)) {
            String many = new String[] {"rock", "ladder", "quick"}[below(3)];
            for (int k = 0; k < 14; k++) {
                b.append(many).append(' ').append(1 + k % 3).append(' ').append(k / 3).append(';');
            }
        }
        return b.toString();
    }
}
