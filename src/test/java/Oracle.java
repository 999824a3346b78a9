import java.util.ArrayDeque;
import java.util.ArrayList;
import java.util.Arrays;
import java.util.HashMap;
import java.util.HashSet;
import java.util.List;
import java.util.Map;
import java.util.NoSuchElementException;
import java.util.Set;
import java.util.TreeSet;

/** The document a second time, as plainly and as slowly as can be, to compare EbbIsland with. */
final class Oracle {
    static final int NONE = -1;

    record Token(char kind, String text, int place) { }

    record Told(int kind, int speed, int load, int row, int died) { }

    record Booking(int party, int day, int tick, List<Integer> way) {
        int arrives() {
            return tick + way.size() - 1;
        }

        int place(int t) {
            return t < tick || t > arrives() ? NONE : way.get(t - tick);
        }
    }

    record Seen(int cell, int day, boolean sank) { }

    interface Expr {
        int worth(int day, int tick, int wind);
    }

    static final class Fault extends RuntimeException {
        private static final long serialVersionUID = 1L;
        final int number;
        final int place;

        Fault(int number, int place) {
            this.number = number;
            this.place = place;
        }
    }

    static final class World {
        int w = 6;
        int h = 4;
        Map<Integer, Integer> heights = new HashMap<>();
        Set<Integer> rocks = new HashSet<>();
        Set<Integer> ladders = new HashSet<>();
        Set<Integer> quick = new HashSet<>();
        int mx;
        int my;
        int wind;
        int ebb = 2;
        int wait = 9;
        List<Told> parties = new ArrayList<>();
        List<int[]> quarrels = new ArrayList<>();
        int[] fog = {1, 0, 0, 0};
        Expr water;

        int height(int cell) {
            return heights.getOrDefault(cell, 4);
        }

        boolean quickBy(int cell, int day, int ax, int ay) {
            for (int q : quick) {
                int x = (q % w + ax * day + 1000 * w) % w;
                int y = (q / w + ay * day + 1000 * h) % h;
                if (y * w + x == cell) {
                    return true;
                }
            }
            return false;
        }

        int level(int day, int tick, int wind) {
            if (water == null) {
                int m = tick / 4 % 12;
                return m > 6 ? 12 - m : m;
            }
            int v = water.worth(day, tick, wind);
            return v < 0 ? 0 : v > 20 ? 20 : v;
        }

        boolean quarrel(int a, int b) {
            for (int[] q : quarrels) {
                if (q[0] == a && q[1] == b || q[0] == b && q[1] == a) {
                    return true;
                }
            }
            return false;
        }
    }

    /** A recursive descent over the text, as the document's grammar stands. */
    static final class Parser {
        final List<Token> tokens = new ArrayList<>();
        int i;
        final World out = new World();

        Parser(byte[] text) {
            int p = 0;
            while (p < text.length) {
                int c = text[p] & 255;
                int q = p + 1;
                if (c == 32 || c == 10) {
                    p++;
                    continue;
                }
                char kind = '?';
                if (c >= 'a' && c <= 'z') {
                    kind = 'w';
                    while (q < text.length && text[q] >= 'a' && text[q] <= 'z') {
                        q++;
                    }
                } else if (c >= '0' && c <= '9') {
                    kind = 'n';
                    while (q < text.length && text[q] >= '0' && text[q] <= '9') {
                        q++;
                    }
                } else if (";()+-*/<=".indexOf(c) >= 0) {
                    kind = 's';
                }
                StringBuilder b = new StringBuilder();
                for (int k = p; k < q; k++) {
                    b.append((char) (text[k] & 255));
                }
                tokens.add(new Token(kind, b.toString(), p));
                p = q;
            }
            tokens.add(new Token('e', "", text.length));
        }

        Token here() {
            return tokens.get(i);
        }

        boolean is(String s) {
            return (here().kind == 'w' || here().kind == 's') && here().text.equals(s);
        }

        void fault(int n) {
            throw new Fault(n, here().place);
        }

        int number(int low, int high) {
            int v = peekNumber();
            if (v < low || v > high) {
                fault(2);
            }
            return v;
        }

        int peekNumber() {
            if (here().kind != 'n') {
                fault(1);
            }
            if (here().text.length() > 4) {
                fault(2);
            }
            return Integer.parseInt(here().text);
        }

        int take(int low, int high) {
            int v = number(low, high);
            i++;
            return v;
        }

        void sign(String s) {
            if (!is(s)) {
                fault(1);
            }
            i++;
        }

        World parse() {
            if (is("sands")) {
                i++;
                out.w = take(3, 9);
                out.h = take(1, 7);
                sign(";");
            }
            Set<String> once = new HashSet<>();
            while (here().kind != 'e') {
                line(once);
                sign(";");
            }
            return out;
        }

        void line(Set<String> once) {
            if (here().kind != 'w') {
                fault(1);
            }
            String word = here().text;
            if (List.of("moves", "wind", "ebb", "wait", "fog", "water").contains(word) && !once.add(word)) {
                fault(5);
            }
            switch (word) {
                case "height" -> {
                    i++;
                    int cell = cell(out.heights.keySet(), Set.of(), false);
                    out.heights.put(cell, take(0, 9));
                }
                case "rock", "ladder" -> {
                    Set<Integer> own = word.equals("rock") ? out.rocks : out.ladders;
                    if (own.size() == 12) {
                        fault(2);
                    }
                    i++;
                    own.add(cell(out.rocks, out.ladders, true));
                }
                case "quick" -> {
                    if (out.quick.size() == 12) {
                        fault(2);
                    }
                    i++;
                    out.quick.add(cell(out.quick, Set.of(), false));
                }
                case "moves" -> {
                    i++;
                    out.mx = signed();
                    out.my = signed();
                }
                case "wind" -> {
                    i++;
                    out.wind = take(0, 9);
                }
                case "ebb" -> {
                    i++;
                    out.ebb = take(1, 6);
                }
                case "wait" -> {
                    i++;
                    out.wait = take(0, 20);
                }
                case "walk", "horse", "stilts", "run" -> {
                    if (out.parties.size() == 6) {
                        fault(2);
                    }
                    i++;
                    out.parties.add(new Told(List.of("walk", "horse", "stilts", "run").indexOf(word),
                            take(1, 4), take(0, 9), take(0, out.h - 1), take(0, 20)));
                }
                case "quarrel" -> quarrel();
                case "fog" -> {
                    i++;
                    int[] f = {take(0, 9), take(0, 9), take(0, 9), number(0, 9)};
                    if (Arrays.stream(f).sum() == 0) {
                        fault(2);
                    }
                    i++;
                    out.fog = f;
                }
                case "water" -> {
                    i++;
                    out.water = expr(0);
                }
                default -> fault(1);
            }
        }

        void quarrel() {
            if (out.quarrels.size() == 6) {
                fault(2);
            }
            i++;
            int a = peekNumber();
            if (a >= out.parties.size()) {
                fault(3);
            }
            i++;
            int b = peekNumber();
            if (b >= out.parties.size()) {
                fault(3);
            }
            if (a == b || out.quarrel(a, b)) {
                fault(4);
            }
            i++;
            out.quarrels.add(new int[] {a, b});
        }

        int cell(Set<Integer> one, Set<Integer> other, boolean notAtEnds) {
            int x = take(0, out.w - 1);
            int y = number(0, out.h - 1);
            int cell = out.w * y + x;
            if (one.contains(cell) || other.contains(cell) || notAtEnds && (x == 0 || x == out.w - 1)) {
                fault(4);
            }
            i++;
            return cell;
        }

        int signed() {
            int by = 1;
            if (is("-")) {
                by = -1;
                i++;
            }
            return by * take(0, 2);
        }

        Expr expr(int within) {
            boolean starts = here().kind == 'n' || here().kind == 'w' || is("(");
            if (within >= 6 && starts) {
                fault(2);
            }
            Expr left = and(within);
            while (is("or")) {
                i++;
                Expr a = left;
                Expr b = and(within);
                left = (d, t, w) -> a.worth(d, t, w) != 0 | b.worth(d, t, w) != 0 ? 1 : 0;
            }
            return left;
        }

        Expr and(int within) {
            Expr left = not(within, 0);
            while (is("and")) {
                i++;
                Expr a = left;
                Expr b = not(within, 0);
                left = (d, t, w) -> a.worth(d, t, w) != 0 & b.worth(d, t, w) != 0 ? 1 : 0;
            }
            return left;
        }

        Expr not(int within, int nots) {
            if (is("not")) {
                if (nots == 6) {
                    fault(2);
                }
                i++;
                Expr a = not(within, nots + 1);
                return (d, t, w) -> a.worth(d, t, w) == 0 ? 1 : 0;
            }
            Expr a = sum(within);
            if (is("<")) {
                i++;
                Expr b = sum(within);
                return (d, t, w) -> a.worth(d, t, w) < b.worth(d, t, w) ? 1 : 0;
            }
            if (is("=")) {
                i++;
                Expr b = sum(within);
                return (d, t, w) -> a.worth(d, t, w) == b.worth(d, t, w) ? 1 : 0;
            }
            return a;
        }

        Expr sum(int within) {
            Expr left = product(within);
            while (is("+") || is("-")) {
                boolean plus = is("+");
                i++;
                Expr a = left;
                Expr b = product(within);
                left = (d, t, w) -> plus ? a.worth(d, t, w) + b.worth(d, t, w) : a.worth(d, t, w) - b.worth(d, t, w);
            }
            return left;
        }

        Expr product(int within) {
            Expr left = part(within);
            while (is("*") || is("/")) {
                boolean times = is("*");
                i++;
                Expr a = left;
                Expr b = part(within);
                left = (d, t, w) -> {
                    int x = a.worth(d, t, w);
                    int y = b.worth(d, t, w);
                    return times ? x * y : y == 0 ? 0 : x / y;
                };
            }
            return left;
        }

        Expr part(int within) {
            if (here().kind == 'n') {
                int v = take(0, 9999);
                return (d, t, w) -> v;
            }
            if (is("(")) {
                i++;
                Expr inner = expr(within + 1);
                sign(")");
                return inner;
            }
            if (here().kind != 'w') {
                fault(1);
            }
            Expr value = switch (here().text) {
                case "hour" -> (d, t, w) -> t / 4;
                case "tick" -> (d, t, w) -> t;
                case "day" -> (d, t, w) -> d;
                case "wind" -> (d, t, w) -> w;
                default -> null;
            };
            if (value == null) {
                fault(3);
            }
            i++;
            return value;
        }
    }

    private final List<Byte> tape = new ArrayList<>();
    private World world = new World();
    private int faultPlace = NONE;
    private List<Booking> bookings = new ArrayList<>();
    private List<Seen> seen = new ArrayList<>();
    private int[] status = new int[3];
    private List<Booking> savedBookings;
    private List<Seen> savedSeen;
    private int[] savedStatus;
    private List<Integer> keptWay;
    private int[] keptDays;

    int feed(int a, int b, int c, int d, int e) {
        if (tape.size() > 680) {
            return NONE;
        }
        for (int n : new int[] {a, b, c, d, e}) {
            tape.add((byte) (n >> 24));
            tape.add((byte) (n >> 16));
            tape.add((byte) (n >> 8));
            tape.add((byte) n);
        }
        return tape.size();
    }

    int island(int n) {
        if (n < 0 || n > tape.size()) {
            throw new IllegalArgumentException();
        }
        byte[] text = new byte[n];
        for (int i = 0; i < n; i++) {
            text[i] = tape.get(i);
        }
        tape.clear();
        try {
            world = new Parser(text).parse();
        } catch (Fault f) {
            faultPlace = f.place;
            status[0]++;
            return f.number;
        }
        faultPlace = NONE;
        bookings = new ArrayList<>();
        seen = new ArrayList<>();
        savedBookings = null;
        keptWay = null;
        keptDays = null;
        return 0;
    }

    int fault() {
        return faultPlace;
    }

    int count(int what) {
        World o = world;
        int[] all = {o.w, o.h, o.quick.size(), o.mx, o.my, o.wind, o.ebb, o.wait, o.parties.size(), o.quarrels.size(),
            bookings.size(), seen.size(), tape.size(), status[0], status[1], status[2]};
        if (what >= 20 && what < 24) {
            return o.fog[what - 20];
        }
        need(what >= 0 && what < all.length);
        return all[what];
    }

    private static void need(boolean there) {
        if (!there) {
            throw new NoSuchElementException();
        }
    }

    private void needCell(int cell) {
        need(cell >= 0 && cell < world.w * world.h);
    }

    private void needDay(int day) {
        need(day >= 0 && day <= 40);
    }

    private void needTick(int tick) {
        need(tick >= 0 && tick <= 95);
    }

    private void needParty(int party) {
        need(party >= 0 && party < world.parties.size());
    }

    int cell(int cell, int what) {
        needCell(cell);
        need(what == 0 || what == 1);
        return what == 0 ? world.height(cell) : ground(cell);
    }

    private int ground(int cell) {
        int x = cell % world.w;
        return x == 0 ? 3 : x == world.w - 1 ? 4 : world.rocks.contains(cell) ? 1 : world.ladders.contains(cell) ? 2 : 0;
    }

    boolean quick(int cell, int day) {
        needCell(cell);
        needDay(day);
        return world.quickBy(cell, day, world.mx, world.my);
    }

    int water(int day, int tick) {
        needDay(day);
        needTick(tick);
        return world.level(day, tick, world.wind);
    }

    int party(int party, int what) {
        needParty(party);
        need(what >= 0 && what <= 5);
        Told p = world.parties.get(party);
        int foes = 0;
        for (int o = 0; o < world.parties.size(); o++) {
            if (world.quarrel(party, o)) {
                foes += 1 << o;
            }
        }
        return new int[] {p.kind, p.speed, p.load, p.row, p.died, foes}[what];
    }

    boolean may(int party, int cell, int day, int tick) {
        needParty(party);
        needCell(cell);
        needDay(day);
        needTick(tick);
        return mayBe(world.parties.get(party), cell, day, tick, world.wind);
    }

    private boolean mayBe(Told p, int cell, int day, int tick, int wind) {
        if (ground(cell) != 0) {
            return true;
        }
        int height = world.height(cell);
        if (world.level(day, tick, wind) >= height + (p.kind == 2 ? 2 : 0)) {
            return false;
        }
        if (p.load != 0 && world.quickBy(cell, day, world.mx, world.my)) {
            return false;
        }
        return p.kind != 1 || p.load <= height + 2;
    }

    /** One search: where a party may be is looked up once for each cell and tick. */
    private final class Search {
        final boolean[][] free = new boolean[world.w * world.h][96];
        final int step;
        final int home;
        final Map<Integer, List<Integer>> rows = new HashMap<>();

        Search(Told p, int day, int wind, int fog) {
            step = (p.kind == 3 ? (p.speed + 1) / 2 : p.speed) + fog;
            home = world.w * p.row;
            for (int c = 0; c < free.length; c++) {
                for (int t = 0; t < 96; t++) {
                    free[c][t] = mayBe(p, c, day, t, wind);
                }
            }
        }

        boolean throughout(int cell, int from, int to) {
            for (int t = from; t <= to; t++) {
                if (t > 95 || !free[cell][t]) {
                    return false;
                }
            }
            return true;
        }

        List<Integer> beside(int cell) {
            List<Integer> out = new ArrayList<>();
            int x = cell % world.w;
            int y = cell / world.w;
            if (y > 0) {
                out.add(cell - world.w);
            }
            if (x < world.w - 1) {
                out.add(cell + 1);
            }
            if (y < world.h - 1) {
                out.add(cell + world.w);
            }
            if (x > 0) {
                out.add(cell - 1);
            }
            return out;
        }

        int arrives(int tick) {
            TreeSet<Integer> ends = new TreeSet<>();
            Set<Integer> known = new HashSet<>();
            ArrayDeque<Integer> open = new ArrayDeque<>();
            open.add(home * 96 + tick);
            while (!open.isEmpty()) {
                int state = open.poll();
                if (!known.add(state)) {
                    continue;
                }
                int cell = state / 96;
                int t = state % 96;
                if (cell % world.w == world.w - 1) {
                    ends.add(t);
                    continue;
                }
                if (throughout(cell, t + 1, t + 1)) {
                    open.add(state + 1);
                }
                for (int n : beside(cell)) {
                    if (throughout(n, t + 1, t + step)) {
                        open.add(n * 96 + t + step);
                    }
                }
            }
            return ends.isEmpty() ? NONE : ends.first();
        }

        /** The first row of cells from here that ends on the island in the last tick; null: none. */
        List<Integer> row(int cell, int t, int last) {
            int state = cell * 96 + t;
            if (rows.containsKey(state)) {
                return rows.get(state);
            }
            List<Integer> best = null;
            if (cell % world.w == world.w - 1) {
                best = t == last ? List.of(cell) : null;
            } else if (t < last) {
                if (throughout(cell, t + 1, t + 1)) {
                    best = lesser(best, joined(cell, 1, row(cell, t + 1, last)));
                }
                for (int n : beside(cell)) {
                    if (t + step <= last && throughout(n, t + 1, t + step)) {
                        List<Integer> rest = row(n, t + step, last);
                        if (rest != null) {
                            List<Integer> all = new ArrayList<>();
                            all.add(cell);
                            for (int k = 1; k < step; k++) {
                                all.add(n);
                            }
                            all.addAll(rest);
                            best = lesser(best, all);
                        }
                    }
                }
            }
            rows.put(state, best);
            return best;
        }

        List<Integer> joined(int cell, int times, List<Integer> rest) {
            if (rest == null) {
                return null;
            }
            List<Integer> all = new ArrayList<>();
            for (int k = 0; k < times; k++) {
                all.add(cell);
            }
            all.addAll(rest);
            return all;
        }

        List<Integer> lesser(List<Integer> a, List<Integer> b) {
            if (a == null || b == null) {
                return a == null ? b : a;
            }
            for (int k = 0; k < a.size() && k < b.size(); k++) {
                if (!a.get(k).equals(b.get(k))) {
                    return a.get(k) < b.get(k) ? a : b;
                }
            }
            return a;
        }
    }

    private List<Integer> wayOf(int party, int day, int tick) {
        Search s = new Search(world.parties.get(party), day, world.wind, 0);
        int last = s.arrives(tick);
        return last == NONE ? null : s.row(s.home, tick, last);
    }

    private int arrives(int party, int day, int tick) {
        return new Search(world.parties.get(party), day, world.wind, 0).arrives(tick);
    }

    int cross(int party, int day, int tick) {
        needStart(party, day, tick);
        List<Integer> way = wayOf(party, day, tick);
        if (way == null) {
            return NONE;
        }
        keptWay = way;
        return tick + way.size() - 1;
    }

    private void needStart(int party, int day, int tick) {
        needParty(party);
        needDay(day);
        needTick(tick);
    }

    int way(int i) {
        need(keptWay != null);
        if (i == NONE) {
            return keptWay.size();
        }
        need(i >= 0 && i < keptWay.size());
        return keptWay.get(i);
    }

    int starts(int party, int day, int what) {
        needParty(party);
        needDay(day);
        need(what >= 0 && what <= 3);
        Search s = new Search(world.parties.get(party), day, world.wind, 0);
        int many = 0;
        int first = NONE;
        int last = NONE;
        int soonest = NONE;
        for (int t = 0; t < 96; t++) {
            int a = s.arrives(t);
            if (a != NONE) {
                many++;
                first = first == NONE ? t : first;
                last = t;
                soonest = soonest == NONE || a < soonest ? a : soonest;
            }
        }
        return new int[] {many, first, last, soonest}[what];
    }

    int book(int party, int day, int tick) {
        needStart(party, day, tick);
        List<Integer> way = wayOf(party, day, tick);
        boolean good = way != null && bookings.size() < 12 && day >= world.parties.get(party).died;
        int onDay = 0;
        for (Booking b : bookings) {
            good &= b.party != party;
            if (b.day == day) {
                onDay++;
                good &= !world.quarrel(party, b.party);
            }
        }
        if (!good || onDay >= world.ebb) {
            status[1]++;
            return NONE;
        }
        bookings.add(new Booking(party, day, tick, way));
        return bookings.size();
    }

    int undo() {
        if (bookings.isEmpty()) {
            return NONE;
        }
        bookings.remove(bookings.size() - 1);
        return bookings.size();
    }

    int booked(int i, int what) {
        need(i >= 0 && i < bookings.size() && what >= 0 && what <= 3);
        Booking b = bookings.get(i);
        return new int[] {b.party, b.day, b.tick, b.arrives()}[what];
    }

    int at(int i, int tick) {
        need(i >= 0 && i < bookings.size());
        needTick(tick);
        return bookings.get(i).place(tick);
    }

    int met(int i, int other) {
        need(i >= 0 && i < bookings.size() && other >= 0 && other < bookings.size());
        if (i == other) {
            throw new IllegalArgumentException();
        }
        Booking a = bookings.get(i);
        Booking b = bookings.get(other);
        for (int t = 0; t < 96 && a.day == b.day; t++) {
            if (a.place(t) != NONE && a.place(t) == b.place(t) && ground(a.place(t)) < 3) {
                return t;
            }
        }
        return NONE;
    }

    private int crowd(int day, int left) {
        for (int t = 0; t < 96; t++) {
            for (Booking a : bookings) {
                for (Booking b : bookings) {
                    boolean stay = (left >> a.party & 1) != 0 || (left >> b.party & 1) != 0;
                    if (a != b && a.day == day && b.day == day && !stay && a.place(t) != NONE
                            && a.place(t) == b.place(t) && ground(a.place(t)) == 2) {
                        return t;
                    }
                }
            }
        }
        return NONE;
    }

    int crowded(int day) {
        needDay(day);
        return crowd(day, 0);
    }

    int leave(int day) {
        needDay(day);
        int best = NONE;
        for (int left = 0; left < 64; left++) {
            boolean asked = true;
            for (int p = 0; p < 6; p++) {
                if ((left >> p & 1) != 0) {
                    boolean there = false;
                    for (Booking b : bookings) {
                        there |= b.party == p && b.day == day;
                    }
                    asked &= there;
                }
            }
            if (asked && crowd(day, left) == NONE
                    && (best == NONE || Integer.bitCount(left) < Integer.bitCount(best))) {
                best = left;
            }
        }
        return best;
    }

    private boolean[][] ableDays() {
        boolean[][] able = new boolean[world.parties.size()][41];
        for (int p = 0; p < able.length; p++) {
            for (int d = 0; d < 41; d++) {
                able[p][d] = arrives(p, d, 0) != NONE;
            }
        }
        return able;
    }

    int burials() {
        int n = world.parties.size();
        boolean[][] able = ableDays();
        int[] days = new int[n];
        for (int ebbs = 0; ebbs <= n; ebbs++) {
            if (place(able, days, 0, ebbs)) {
                keptDays = days;
                return ebbs;
            }
        }
        return NONE;
    }

    private boolean place(boolean[][] able, int[] days, int p, int ebbs) {
        if (p == days.length) {
            return true;
        }
        int died = world.parties.get(p).died;
        for (int d = died; d <= died + world.wait && d <= 40; d++) {
            int on = 0;
            boolean good = able[p][d];
            Set<Integer> used = new HashSet<>();
            used.add(d);
            for (int o = 0; o < p; o++) {
                used.add(days[o]);
                if (days[o] == d) {
                    on++;
                    good &= !world.quarrel(p, o);
                }
            }
            if (good && on < world.ebb && used.size() <= ebbs) {
                days[p] = d;
                if (place(able, days, p + 1, ebbs)) {
                    return true;
                }
            }
        }
        return false;
    }

    int buried(int party) {
        needParty(party);
        need(keptDays != null);
        return keptDays[party];
    }

    int queue(int party) {
        needParty(party);
        int n = world.parties.size();
        List<Integer> haste = new ArrayList<>();
        for (int p = 0; p < n; p++) {
            haste.add(p);
        }
        haste.sort((a, b) -> world.parties.get(a).died - world.parties.get(b).died);
        int[] on = new int[n];
        Arrays.fill(on, NONE);
        for (int d = 0; d <= 40; d++) {
            List<Integer> now = new ArrayList<>();
            for (int p : haste) {
                boolean good = on[p] == NONE && world.parties.get(p).died <= d && now.size() < world.ebb;
                for (int o : now) {
                    good &= !world.quarrel(p, o);
                }
                if (good && arrives(p, d, 0) != NONE) {
                    now.add(p);
                    on[p] = d;
                }
            }
        }
        return on[party];
    }

    int heir(int party) {
        needParty(party);
        List<int[]> order = new ArrayList<>();
        for (int p = 0; p < world.parties.size(); p++) {
            for (int d = world.parties.get(p).died; d <= 40; d++) {
                int a = arrives(p, d, 0);
                if (a != NONE) {
                    order.add(new int[] {d, a, p});
                    break;
                }
            }
        }
        order.sort((a, b) -> Arrays.compare(a, b));
        for (int i = 0; i < order.size(); i++) {
            if (order.get(i)[2] == party) {
                return i;
            }
        }
        return NONE;
    }

    int sink(int cell, int day, boolean sank) {
        needCell(cell);
        needDay(day);
        if (seen.size() == 12) {
            status[2]++;
            return NONE;
        }
        seen.add(new Seen(cell, day, sank));
        return seen.size();
    }

    int forget() {
        if (seen.isEmpty()) {
            return NONE;
        }
        seen.remove(seen.size() - 1);
        return seen.size();
    }

    private List<int[]> fitting() {
        List<int[]> out = new ArrayList<>();
        for (int x = -2; x <= 2; x++) {
            for (int y = -2; y <= 2; y++) {
                boolean good = true;
                for (Seen s : seen) {
                    good &= world.quickBy(s.cell, s.day, x, y) == s.sank;
                }
                if (good) {
                    out.add(new int[] {x, y});
                }
            }
        }
        return out;
    }

    int motions(int what) {
        need(what == 0 || what == 1);
        List<int[]> fit = fitting();
        return what == 0 ? fit.size() : fit.isEmpty() ? NONE : 5 * (fit.get(0)[0] + 2) + fit.get(0)[1] + 2;
    }

    long sound(int day, boolean doubtful) {
        needDay(day);
        List<int[]> fit = fitting();
        long out = 0;
        for (int c = 0; c < world.w * world.h; c++) {
            int by = 0;
            for (int[] m : fit) {
                by += world.quickBy(c, day, m[0], m[1]) ? 1 : 0;
            }
            boolean in = doubtful ? by > 0 && by < fit.size() : by == 0 && !fit.isEmpty();
            out += in ? 1L << c : 0;
        }
        return out;
    }

    int late(int party, int day, int tick) {
        needStart(party, day, tick);
        if (arrives(party, day, tick) == NONE) {
            return NONE;
        }
        Search s = new Search(world.parties.get(party), day, world.wind, 0);
        int most = 0;
        for (int later = 0; tick + later < 96; later++) {
            most = s.arrives(tick + later) == NONE ? most : later;
        }
        return most;
    }

    int costs(int party, int day, int tick, int later) {
        needStart(party, day, tick);
        if (later < 0 || (long) tick + later > 95) {
            throw new IllegalArgumentException();
        }
        int a = arrives(party, day, tick);
        int b = arrives(party, day, tick + later);
        return a == NONE || b == NONE ? NONE : b - a;
    }

    int vigil(int party, int day, int tick, int what) {
        needStart(party, day, tick);
        need(what >= 0 && what <= 3);
        int can = 0;
        int all = 0;
        int ticks = 0;
        for (int f = 0; f < 4; f++) {
            all += world.fog[f];
            int a = new Search(world.parties.get(party), day, world.wind, f).arrives(tick);
            if (a != NONE) {
                can += world.fog[f];
                ticks += world.fog[f] * (a - tick);
            }
        }
        int[] fraction = what < 2 ? lowest(can, all) : lowest(ticks, can);
        return fraction[what % 2];
    }

    private static int[] lowest(int a, int b) {
        if (a == 0 || b == 0) {
            return new int[] {0, 1};
        }
        for (int d = 2; d <= a; d++) {
            while (a % d == 0 && b % d == 0) {
                a /= d;
                b /= d;
            }
        }
        return new int[] {a, b};
    }

    int rents(int day, int tick, int what) {
        needDay(day);
        needTick(tick);
        need(what == 0 || what == 1);
        int n = world.parties.size();
        boolean[][] can = new boolean[n][2];
        for (int p = 0; p < n; p++) {
            Told t = world.parties.get(p);
            for (int k = 0; k < 2; k++) {
                Told as = new Told(k + 1, t.speed, t.load, t.row, t.died);
                can[p][k] = new Search(as, day, world.wind, 0).arrives(tick) != NONE;
            }
        }
        int many = 0;
        int first = NONE;
        for (int h = 1; h <= 9; h++) {
            for (int s = 1; s <= 9; s++) {
                boolean rests = true;
                for (int o = 1; o <= 9; o++) {
                    rests &= gains(can, o, s)[0] <= gains(can, h, s)[0];
                    rests &= gains(can, h, o)[1] <= gains(can, h, s)[1];
                }
                if (rests) {
                    many++;
                    first = first == NONE ? 10 * h + s : first;
                }
            }
        }
        return what == 0 ? many : first;
    }

    private static int[] gains(boolean[][] can, int h, int s) {
        int[] out = new int[2];
        for (boolean[] c : can) {
            if (c[0] && (!c[1] || h <= s)) {
                out[0] += h;
            } else if (c[1]) {
                out[1] += s;
            }
        }
        return out;
    }

    int warning(int party, int day, int tick) {
        needStart(party, day, tick);
        for (int wind = 0; wind <= 9; wind++) {
            if (new Search(world.parties.get(party), day, wind, 0).arrives(tick) == NONE) {
                return wind;
            }
        }
        return NONE;
    }

    int fogs(int party, int tick, int seed, int n) {
        needParty(party);
        needTick(tick);
        if (n < 0 || n > 40) {
            throw new IllegalArgumentException();
        }
        int many = 0;
        for (int day = 0; day < n; day++) {
            seed = seed * 1103515245 + 12345;
            int bits = (int) (((seed & 0xffffffffL) / 65536) % 32768);
            List<Integer> lots = new ArrayList<>();
            for (int f = 0; f < 4; f++) {
                for (int k = 0; k < world.fog[f]; k++) {
                    lots.add(f);
                }
            }
            int fog = lots.get(bits % lots.size());
            many += new Search(world.parties.get(party), day, world.wind, fog).arrives(tick) == NONE ? 0 : 1;
        }
        return many;
    }

    void image() {
        savedBookings = new ArrayList<>(bookings);
        savedSeen = new ArrayList<>(seen);
        savedStatus = status.clone();
    }

    boolean restore() {
        if (savedBookings == null) {
            return false;
        }
        bookings = new ArrayList<>(savedBookings);
        seen = new ArrayList<>(savedSeen);
        status = savedStatus.clone();
        return true;
    }
}
