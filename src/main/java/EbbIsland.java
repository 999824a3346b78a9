import java.util.Arrays;
import java.util.NoSuchElementException;

/** Undertakers of the tide island: who can cross the sands, when and by which way, and what follows from it. */
public final class EbbIsland {
    public static final int NONE = -1;

    private static final int TAPE_BYTES = 700;
    private static final int FED_BYTES = 20;
    private static final int MOST_CELLS = 63;
    private static final int MOST_MARKS = 12;
    private static final int MOST_PARTIES = 6;
    private static final int PARTY_SETS = 64;
    private static final int MOST_QUARRELS = 6;
    private static final int MOST_BOOKED = 12;
    private static final int MOST_SANK = 12;
    private static final int HEIGHTS = 10;
    private static final int STRENGTHS = 4;
    private static final int WINDS = 10;
    private static final int RENTS = 9;
    private static final int MOTIONS = 25;
    private static final int DAYS = 41;
    private static final int TICKS = 96;
    private static final int TICKS_OF_HOUR = 4;
    private static final int HIGHEST_WATER = 20;
    private static final int LAST_DEATH = 20;

    private static final int WALK = 0;
    private static final int HORSE = 1;
    private static final int STILTS = 2;
    private static final int RUN = 3;

    private static final int SAND = 0;
    private static final int ROCK = 1;
    private static final int LADDER = 2;
    private static final int SHORE = 3;
    private static final int ISLE = 4;

    private static final int REFUSED_TEXTS = 0;
    private static final int REFUSED_BOOKINGS = 1;
    private static final int REFUSED_SANK = 2;

    private static final int MISPLACED = 1;
    private static final int TOO_MUCH = 2;
    private static final int UNKNOWN = 3;
    private static final int TAKEN = 4;
    private static final int TWICE = 5;

    // Kinds of tokens; a sign's kind is its own byte, so these stay below all signs.
    private static final int NO_TOKEN = 0;
    private static final int END = 1;
    private static final int WORD = 2;
    private static final int NUMBER = 3;

    private static final int LONGEST_DIGITS = 4;
    private static final int TOO_LONG = 10000;
    private static final int HIGHEST_NUMBER = 9999;

    private static final int MOST_EXPRS = 6;
    private static final int MOST_NOTS = 6;
    private static final int MOST_WAITING = 96;
    private static final int MOST_VALUES = 64;
    private static final int MOST_DIVISIONS = 64;

    // What stands in a rule beside its numbers, which are 0 and above.
    private static final int HOUR_VALUE = -1;
    private static final int TICK_VALUE = -2;
    private static final int DAY_VALUE = -3;
    private static final int WIND_VALUE = -4;
    private static final int OR = -5;
    private static final int AND = -6;
    private static final int NOT = -7;
    private static final int LESS = -8;
    private static final int SAME = -9;
    private static final int PLUS = -10;
    private static final int MINUS = -11;
    private static final int TIMES = -12;
    private static final int OVER = -13;
    private static final int OPEN = -14;

    private final byte[] tape = new byte[TAPE_BYTES];
    private int fed;
    private final Reader reader;
    private int faultPlace;
    private Island here;
    private Island spare;
    private final Ferry ferry;
    private final Planner planner;
    private final Ledger ledger;
    private final Ledger saved;
    private boolean hasImage;
    private final int[] keptWay = new int[TICKS];
    private int keptFirst;
    private int keptLast;
    private final int[] keptDays = new int[MOST_PARTIES];
    private boolean hasDays;

    public EbbIsland() {
        reader = new Reader(tape);
        here = new Island();
        spare = new Island();
        ferry = new Ferry(here);
        planner = new Planner(ferry);
        ledger = new Ledger();
        saved = new Ledger();
        fed = 0;
        faultPlace = NONE;
        keptLast = NONE;
    }

    public int feed(int a, int b, int c, int d, int e) {
        if (fed + FED_BYTES > TAPE_BYTES) {
            return NONE;
        }
        putBytes(a);
        putBytes(b);
        putBytes(c);
        putBytes(d);
        putBytes(e);
        return fed;
    }

    public int island(int n) throws IllegalArgumentException {
        if (n < 0 || n > fed) {
            throw new IllegalArgumentException("the tape has not so many bytes");
        }
        fed = 0;
        int fault = reader.readAll(n, spare);
        faultPlace = fault == 0 ? NONE : reader.faultPlace();
        if (fault != 0) {
            ledger.refused[REFUSED_TEXTS]++;
            return fault;
        }
        Island old = here;
        here = spare;
        spare = old;
        ferry.enter(here);
        ledger.bookedCount = 0;
        ledger.sankCount = 0;
        hasImage = false;
        hasDays = false;
        keptLast = NONE;
        return 0;
    }

    public int fault() {
        return faultPlace;
    }

    public int count(int what) throws NoSuchElementException {
        switch (what) {
            case 0: return here.sands.wide;
            case 1: return here.sands.deep;
            case 2: return here.sands.quickCount;
            case 3: return here.sands.moveX;
            case 4: return here.sands.moveY;
            case 5: return here.wind;
            case 6: return here.ebb;
            case 7: return here.wait;
            case 8: return here.partyCount;
            case 9: return here.quarrels;
            case 10: return ledger.bookedCount;
            case 11: return ledger.sankCount;
            case 12: return fed;
            case 13: return ledger.refused[REFUSED_TEXTS];
            case 14: return ledger.refused[REFUSED_BOOKINGS];
            case 15: return ledger.refused[REFUSED_SANK];
            case 20: return here.fog[0];
            case 21: return here.fog[1];
            case 22: return here.fog[2];
            case 23: return here.fog[3];
            default: throw new NoSuchElementException("nothing such is counted");
        }
    }

    public int cell(int cell, int what) throws NoSuchElementException {
        needCell(cell);
        if (what == 0) {
            return here.sands.heights[cell];
        }
        if (what == 1) {
            return here.sands.groundOf(cell);
        }
        throw new NoSuchElementException("nothing such is told of a cell");
    }

    public boolean quick(int cell, int day) throws NoSuchElementException {
        needCell(cell);
        needDay(day);
        return has(here.sands.quickNow(day), cell);
    }

    public int water(int day, int tick) throws NoSuchElementException {
        needDay(day);
        needTick(tick);
        return ferry.levelOn(day, tick);
    }

    public int party(int party, int what) throws NoSuchElementException {
        needParty(party);
        Party who = here.parties[party];
        switch (what) {
            case 0: return who.kind;
            case 1: return who.speed;
            case 2: return who.load;
            case 3: return who.row;
            case 4: return who.died;
            case 5: return who.foes;
            default: throw new NoSuchElementException("nothing such is told of a party");
        }
    }

    public boolean may(int party, int cell, int day, int tick) throws NoSuchElementException {
        needParty(party);
        needCell(cell);
        needDay(day);
        needTick(tick);
        Party who = here.parties[party];
        long firm = here.sands.firmFor(who.load, day);
        return has(here.sands.safeFor(who.kind, who.load, ferry.levelOn(day, tick), firm), cell);
    }

    public int cross(int party, int day, int tick) throws NoSuchElementException {
        needStart(party, day, tick);
        int arrival = ferry.arrival(party, day, tick);
        if (arrival != NONE) {
            ferry.trace(tick, arrival, keptWay, 0);
            keptFirst = tick;
            keptLast = arrival;
        }
        return arrival;
    }

    public int way(int i) throws NoSuchElementException {
        if (keptLast == NONE) {
            throw new NoSuchElementException("no way is kept");
        }
        int length = keptLast - keptFirst + 1;
        if (i == NONE) {
            return length;
        }
        if (i < 0 || i >= length || keptFirst + i >= keptWay.length) {
            throw new NoSuchElementException("the way has no such tick");
        }
        return keptWay[keptFirst + i];
    }

    public int starts(int party, int day, int what) throws NoSuchElementException {
        needParty(party);
        needDay(day);
        if (what < 0 || what > 3) {
            throw new NoSuchElementException("nothing such is told of starts");
        }
        if (what == 3) {
            return ferry.soonest(party, day);
        }
        // Who starts sooner can wait ashore: so all ticks up to the last start are starts.
        int last = ferry.lastStart(party, day);
        if (what == 0) {
            return last + 1;
        }
        return what == 2 || last == NONE ? last : 0;
    }

    public int book(int party, int day, int tick) throws NoSuchElementException {
        needStart(party, day, tick);
        int arrival = ferry.arrival(party, day, tick);
        if (arrival == NONE || !mayBook(party, day)) {
            ledger.refused[REFUSED_BOOKINGS]++;
            return NONE;
        }
        int i = ledger.bookedCount;
        ledger.party[i] = party;
        ledger.day[i] = day;
        ledger.first[i] = tick;
        ledger.last[i] = arrival;
        ferry.trace(tick, arrival, ledger.ways, i * TICKS);
        ledger.bookedCount = i + 1;
        return ledger.bookedCount;
    }

    public int undo() {
        if (ledger.bookedCount == 0) {
            return NONE;
        }
        ledger.bookedCount--;
        return ledger.bookedCount;
    }

    public int booked(int i, int what) throws NoSuchElementException {
        needBooked(i);
        switch (what) {
            case 0: return ledger.party[i];
            case 1: return ledger.day[i];
            case 2: return ledger.first[i];
            case 3: return ledger.last[i];
            default: throw new NoSuchElementException("nothing such is told of what is booked");
        }
    }

    public int at(int i, int tick) throws NoSuchElementException {
        needBooked(i);
        needTick(tick);
        return ledger.placeOf(i, tick);
    }

    public int met(int i, int other) throws NoSuchElementException, IllegalArgumentException {
        needBooked(i);
        needBooked(other);
        if (i == other) {
            throw new IllegalArgumentException("both are one");
        }
        if (ledger.day[i] != ledger.day[other]) {
            return NONE;
        }
        long ends = here.sands.shore | here.sands.isle;
        for (int tick = 0; tick < TICKS; tick++) {
            int place = ledger.placeOf(i, tick);
            if (place != NONE && place == ledger.placeOf(other, tick) && !has(ends, place)) {
                return tick;
            }
        }
        return NONE;
    }

    public int crowded(int day) throws NoSuchElementException {
        needDay(day);
        return ledger.firstCrowd(day, here.sands.ladders, 0);
    }

    public int leave(int day) throws NoSuchElementException {
        needDay(day);
        int candidates = ledger.partiesOn(day);
        for (int size = 0; size <= MOST_PARTIES; size++) {
            for (int left = 0; left < PARTY_SETS; left++) {
                if (Integer.bitCount(left) == size && (left & ~candidates) == 0
                        && ledger.firstCrowd(day, here.sands.ladders, left) == NONE) {
                    return left;
                }
            }
        }
        return candidates;
    }

    public int burials() {
        int ebbs = planner.plan();
        if (ebbs != NONE) {
            for (int party = 0; party < MOST_PARTIES; party++) {
                keptDays[party] = planner.plannedDay(party);
            }
            hasDays = true;
        }
        return ebbs;
    }

    public int buried(int party) throws NoSuchElementException {
        needParty(party);
        if (!hasDays) {
            throw new NoSuchElementException("no burials are kept");
        }
        return keptDays[party];
    }

    public int queue(int party) throws NoSuchElementException {
        needParty(party);
        return planner.dayInQueue(party);
    }

    public int heir(int party) throws NoSuchElementException {
        needParty(party);
        return planner.rankOf(party);
    }

    public int sink(int cell, int day, boolean sank) throws NoSuchElementException {
        needCell(cell);
        needDay(day);
        int i = ledger.sankCount;
        if (i >= MOST_SANK) {
            ledger.refused[REFUSED_SANK]++;
            return NONE;
        }
        ledger.sankCell[i] = cell;
        ledger.sankDay[i] = day;
        ledger.sankBits = sank ? ledger.sankBits | 1 << i : ledger.sankBits & ~(1 << i);
        ledger.sankCount = i + 1;
        return ledger.sankCount;
    }

    public int forget() {
        if (ledger.sankCount == 0) {
            return NONE;
        }
        ledger.sankCount--;
        return ledger.sankCount;
    }

    public int motions(int what) throws NoSuchElementException {
        if (what != 0 && what != 1) {
            throw new NoSuchElementException("nothing such is told of motions");
        }
        int fitting = 0;
        int least = NONE;
        for (int motion = 0; motion < MOTIONS; motion++) {
            if (fits(motion)) {
                fitting++;
                least = least == NONE ? motion : least;
            }
        }
        return what == 0 ? fitting : least;
    }

    public long sound(int day, boolean doubtful) throws NoSuchElementException {
        needDay(day);
        boolean none = true;
        long some = 0;
        long every = here.sands.all;
        for (int motion = 0; motion < MOTIONS; motion++) {
            if (fits(motion)) {
                long cells = here.sands.quickBy(motion, day);
                none = false;
                some |= cells;
                every &= cells;
            }
        }
        if (none) {
            return 0;
        }
        return doubtful ? some & ~every : here.sands.all & ~some;
    }

    public int late(int party, int day, int tick) throws NoSuchElementException {
        needStart(party, day, tick);
        int last = ferry.lastStart(party, day);
        return tick > last ? NONE : last - tick;
    }

    public int costs(int party, int day, int tick, int later)
            throws NoSuchElementException, IllegalArgumentException {
        needStart(party, day, tick);
        if (later < 0 || later >= TICKS - tick) {
            throw new IllegalArgumentException("no such later tick");
        }
        int arrival = ferry.arrival(party, day, tick);
        int laterArrival = ferry.arrival(party, day, tick + later);
        return arrival == NONE || laterArrival == NONE ? NONE : laterArrival - arrival;
    }

    public int vigil(int party, int day, int tick, int what) throws NoSuchElementException {
        needStart(party, day, tick);
        if (what < 0 || what > 3) {
            throw new NoSuchElementException("nothing such is told of vigils");
        }
        int able = 0;
        int taken = 0;
        for (int strength = 0; strength < STRENGTHS; strength++) {
            int weight = here.fog[strength];
            int arrival = weight == 0 ? NONE : ferry.arrivalInFog(party, day, tick, strength);
            if (arrival != NONE) {
                able += weight;
                taken += weight * (arrival - tick);
            }
        }
        int upper = what < 2 ? able : taken;
        int lower = what < 2 ? here.fogWeight() : able;
        int part = commonPart(upper, lower);
        if (upper == 0 || part == 0) {
            return what % 2;
        }
        return what % 2 == 0 ? upper / part : lower / part;
    }

    public int rents(int day, int tick, int what) throws NoSuchElementException {
        needDay(day);
        needTick(tick);
        if (what != 0 && what != 1) {
            throw new NoSuchElementException("nothing such is told of rents");
        }
        int[] takers = ferry.takersOn(day, tick);
        int resting = 0;
        int first = NONE;
        for (int horses = 1; horses <= RENTS; horses++) {
            for (int stilts = 1; stilts <= RENTS; stilts++) {
                if (rests(takers, horses, stilts)) {
                    resting++;
                    first = first == NONE ? 10 * horses + stilts : first;
                }
            }
        }
        return what == 0 ? resting : first;
    }

    public int warning(int party, int day, int tick) throws NoSuchElementException {
        needStart(party, day, tick);
        for (int wind = 0; wind < WINDS; wind++) {
            if (ferry.arrivalInWind(party, day, tick, wind) == NONE) {
                return wind;
            }
        }
        return NONE;
    }

    public int fogs(int party, int tick, int seed, int n) throws NoSuchElementException, IllegalArgumentException {
        needParty(party);
        needTick(tick);
        if (n < 0 || n >= DAYS) {
            throw new IllegalArgumentException("no such number of days");
        }
        int able = 0;
        int drawn = seed;
        for (int day = 0; day < n; day++) {
            drawn = drawn * 1103515245 + 12345;
            if (ferry.arrivalInFog(party, day, tick, here.strengthOf(drawn >>> 16 & 32767)) != NONE) {
                able++;
            }
        }
        return able;
    }

    public void image() {
        saved.copyFrom(ledger);
        hasImage = true;
    }

    public boolean restore() {
        if (hasImage) {
            ledger.copyFrom(saved);
        }
        return hasImage;
    }

    private void putBytes(int number) {
        for (int shift = 24; shift >= 0; shift -= 8) {
            if (fed < tape.length) {
                tape[fed] = (byte) (number >> shift);
                fed++;
            }
        }
    }

    private void needCell(int cell) {
        if (cell < 0 || cell >= here.sands.wide * here.sands.deep || cell >= MOST_CELLS) {
            throw new NoSuchElementException("no such cell");
        }
    }

    private void needDay(int day) {
        if (day < 0 || day >= DAYS) {
            throw new NoSuchElementException("no such day");
        }
    }

    private void needTick(int tick) {
        if (tick < 0 || tick >= TICKS) {
            throw new NoSuchElementException("no such tick");
        }
    }

    private void needParty(int party) {
        if (party < 0 || party >= here.partyCount || party >= MOST_PARTIES) {
            throw new NoSuchElementException("no such party");
        }
    }

    private void needStart(int party, int day, int tick) {
        needParty(party);
        needDay(day);
        needTick(tick);
    }

    private void needBooked(int i) {
        if (i < 0 || i >= ledger.bookedCount || i >= MOST_BOOKED) {
            throw new NoSuchElementException("no such crossing is booked");
        }
    }

    private boolean mayBook(int party, int day) {
        if (ledger.bookedCount >= MOST_BOOKED || day < here.parties[party].died || ledger.hasParty(party)) {
            return false;
        }
        int onDay = ledger.partiesOn(day);
        return Integer.bitCount(onDay) < here.ebb && (onDay & here.parties[party].foes) == 0;
    }

    private boolean fits(int motion) {
        for (int i = 0; i < ledger.sankCount && i < MOST_SANK; i++) {
            boolean sank = (ledger.sankBits >> i & 1) != 0;
            if (has(here.sands.quickBy(motion, ledger.sankDay[i]), ledger.sankCell[i]) != sank) {
                return false;
            }
        }
        return true;
    }

    private static boolean has(long cells, int cell) {
        return (cells >>> cell & 1L) != 0;
    }

    private static int commonPart(int a, int b) {
        int whole = a;
        int rest = b;
        for (int i = 0; i < MOST_DIVISIONS && rest != 0; i++) {
            int next = whole % rest;
            whole = rest;
            rest = next;
        }
        return whole;
    }

    private static boolean rests(int[] takers, int horses, int stilts) {
        int horsesGain = gainOfHorses(takers, horses, stilts);
        int stiltsGain = gainOfStilts(takers, horses, stilts);
        for (int rent = 1; rent <= RENTS; rent++) {
            if (gainOfHorses(takers, rent, stilts) > horsesGain || gainOfStilts(takers, horses, rent) > stiltsGain) {
                return false;
            }
        }
        return true;
    }

    private static int gainOfHorses(int[] takers, int horses, int stilts) {
        int both = horses <= stilts ? takers[3] : 0;
        return horses * (takers[1] + both);
    }

    private static int gainOfStilts(int[] takers, int horses, int stilts) {
        int both = stilts < horses ? takers[3] : 0;
        return stilts * (takers[2] + both);
    }

    /** Those who carry one of the dead. */
    private static final class Party {
        int kind;
        int speed;
        int load;
        int row;
        int died;
        int foes;
    }

    /** The cells between the shore and the island; sets of them are bits of a long. */
    private static final class Sands {
        int wide;
        int deep;
        final int[] heights = new int[MOST_CELLS];
        long heightTold;
        long rocks;
        long ladders;
        final int[] quickCells = new int[MOST_MARKS];
        int quickCount;
        long quickTold;
        int moveX;
        int moveY;
        long all;
        long shore;
        long isle;
        private final long[] atLeast = new long[HEIGHTS];

        void clear(int newWide, int newDeep) {
            wide = newWide;
            deep = newDeep;
            Arrays.fill(heights, 4);
            heightTold = 0;
            rocks = 0;
            ladders = 0;
            quickCount = 0;
            quickTold = 0;
            moveX = 0;
            moveY = 0;
            all = 0;
            shore = 0;
            isle = 0;
            for (int y = 0; y < deep; y++) {
                shore |= 1L << (wide * y);
                isle |= 1L << (wide * y + wide - 1);
            }
            for (int cell = 0; cell < wide * deep; cell++) {
                all |= 1L << cell;
            }
        }

        /** Must follow the last height that is told, as crossings ask for cells by their heights. */
        void settle() {
            Arrays.fill(atLeast, 0L);
            for (int cell = 0; cell < wide * deep && cell < MOST_CELLS; cell++) {
                for (int height = 0; height <= heights[cell] && height < HEIGHTS; height++) {
                    atLeast[height] |= 1L << cell;
                }
            }
        }

        int groundOf(int cell) {
            if (has(shore, cell)) {
                return SHORE;
            }
            if (has(isle, cell)) {
                return ISLE;
            }
            if (has(rocks, cell)) {
                return ROCK;
            }
            return has(ladders, cell) ? LADDER : SAND;
        }

        long quickNow(int day) {
            return quickOn(day, moveX, moveY);
        }

        long quickBy(int motion, int day) {
            return quickOn(day, motion / 5 - 2, motion % 5 - 2);
        }

        private long quickOn(int day, int alongX, int alongY) {
            long cells = 0;
            if (wide < 1 || deep < 1) {
                return cells;
            }
            for (int i = 0; i < quickCount && i < MOST_MARKS; i++) {
                int x = Math.floorMod(quickCells[i] % wide + day * alongX, wide);
                int y = Math.floorMod(quickCells[i] / wide + day * alongY, deep);
                cells |= 1L << (wide * y + x);
            }
            return cells;
        }

        /** The cells whose sand bears a load on a day. */
        long firmFor(int load, int day) {
            return load == 0 ? all : all & ~quickOn(day, moveX, moveY);
        }

        long safeFor(int kind, int load, int level, long firm) {
            int lowest = kind == STILTS ? level - 1 : level + 1;
            if (kind == HORSE) {
                lowest = Math.max(lowest, load - 2);
            }
            lowest = Math.max(lowest, 0);
            long always = shore | isle | rocks | ladders;
            return lowest < HEIGHTS ? always | firm & atLeast[lowest] : always;
        }

        long beside(long cells) {
            return (cells >>> wide | cells << wide | (cells & ~isle) << 1 | (cells & ~shore) >>> 1) & all;
        }
    }

    /** The rule of the water: numbers, values and signs in the order in which a stack takes them. */
    private static final class Rule {
        private final int[] code = new int[TAPE_BYTES];
        private final int[] stack = new int[MOST_VALUES];
        private int length;

        void clear() {
            length = 0;
        }

        void add(int part) {
            if (length < code.length) {
                code[length] = part;
                length++;
            }
        }

        int level(int day, int tick, int wind) {
            if (length == 0) {
                return usualLevel(tick);
            }
            int top = 0;
            for (int i = 0; i < length && i < code.length; i++) {
                int part = code[i];
                if (part >= WIND_VALUE) {
                    if (top < stack.length) {
                        stack[top] = part >= 0 ? part : valueOf(part, day, tick, wind);
                        top++;
                    }
                } else if (part == NOT) {
                    if (top >= 1) {
                        stack[top - 1] = stack[top - 1] == 0 ? 1 : 0;
                    }
                } else if (top >= 2) {
                    top--;
                    stack[top - 1] = joined(part, stack[top - 1], stack[top]);
                }
            }
            return Math.max(0, Math.min(HIGHEST_WATER, stack[0]));
        }

        private static int usualLevel(int tick) {
            int hour = tick / TICKS_OF_HOUR % 12;
            return hour > 6 ? 12 - hour : hour;
        }

        private static int valueOf(int part, int day, int tick, int wind) {
            switch (part) {
                case HOUR_VALUE: return tick / TICKS_OF_HOUR;
                case TICK_VALUE: return tick;
                case DAY_VALUE: return day;
                default: return wind;
            }
        }

        private static int joined(int sign, int a, int b) {
            switch (sign) {
                case OR: return a != 0 || b != 0 ? 1 : 0;
                case AND: return a != 0 && b != 0 ? 1 : 0;
                case LESS: return a < b ? 1 : 0;
                case SAME: return a == b ? 1 : 0;
                case PLUS: return a + b;
                case MINUS: return a - b;
                case TIMES: return a * b;
                default: return b == 0 ? 0 : a / b;
            }
        }
    }

    /** All that a text tells. */
    private static final class Island {
        final Sands sands = new Sands();
        final Rule rule = new Rule();
        final Party[] parties = new Party[MOST_PARTIES];
        int partyCount;
        int quarrels;
        int wind;
        int ebb;
        int wait;
        final int[] fog = new int[STRENGTHS];

        Island() {
            for (int party = 0; party < MOST_PARTIES; party++) {
                parties[party] = new Party();
            }
            clear();
            sands.settle();
        }

        void clear() {
            sands.clear(6, 4);
            rule.clear();
            partyCount = 0;
            quarrels = 0;
            wind = 0;
            ebb = 2;
            wait = 9;
            Arrays.fill(fog, 0);
            fog[0] = 1;
        }

        int fogWeight() {
            return fog[0] + fog[1] + fog[2] + fog[3];
        }

        int strengthOf(int drawn) {
            int weight = fogWeight();
            if (weight < 1) {
                return 0;
            }
            int draw = drawn % weight;
            int together = 0;
            for (int strength = 0; strength < STRENGTHS; strength++) {
                together += fog[strength];
                if (together > draw) {
                    return strength;
                }
            }
            return 0;
        }
    }

    /** The text, token by token, and the first fault that is found in it. */
    private static final class Tokens {
        private final byte[] text;
        private int length;
        private int next;
        private int from;
        int kind;
        int value;
        int fault;
        int faultPlace;

        Tokens(byte[] tape) {
            text = tape;
        }

        void open(int bytes) {
            length = Math.min(bytes, text.length);
            next = 0;
            fault = 0;
            faultPlace = NONE;
            advance();
        }

        boolean refuse(int number) {
            fault = number;
            faultPlace = from;
            return false;
        }

        void advance() {
            while (next < length && (text[next] == ' ' || text[next] == '\n')) {
                next++;
            }
            from = next;
            if (next >= length) {
                kind = END;
            } else if (text[next] >= 'a' && text[next] <= 'z') {
                kind = WORD;
                while (next < length && text[next] >= 'a' && text[next] <= 'z') {
                    next++;
                }
            } else if (text[next] >= '0' && text[next] <= '9') {
                kind = NUMBER;
                value = 0;
                while (next < length && text[next] >= '0' && text[next] <= '9') {
                    value = next - from < LONGEST_DIGITS ? 10 * value + text[next] - '0' : TOO_LONG;
                    next++;
                }
            } else {
                kind = signOf(text[next]);
                next++;
            }
        }

        private static int signOf(int sign) {
            switch (sign) {
                case ';': case '(': case ')': case '+': case '-': case '*': case '/': case '<': case '=':
                    return sign;
                default:
                    return NO_TOKEN;
            }
        }

        boolean isWord(String word) {
            if (kind != WORD || next - from != word.length()) {
                return false;
            }
            for (int i = 0; i < word.length() && from + i < text.length; i++) {
                if (text[from + i] != word.charAt(i)) {
                    return false;
                }
            }
            return true;
        }

        /** Leaves the token where it is, as its place may have a fault yet. */
        boolean isNumber(int low, int high) {
            if (kind != NUMBER) {
                return refuse(MISPLACED);
            }
            return value >= low && value <= high || refuse(TOO_MUCH);
        }

        boolean takeSign(int sign) {
            if (kind != sign) {
                return refuse(MISPLACED);
            }
            advance();
            return true;
        }
    }

    /** Reads a rule of the water; signs wait until the parts that they join have come. */
    private static final class RuleReader {
        private final Tokens tokens;
        private final int[] waiting = new int[MOST_WAITING];
        private int waitingCount;
        private Rule rule;
        private int depth;
        private int nots;
        private int comparedDepths;
        private boolean exprBegins;
        private boolean notMayStand;
        private boolean partDue;

        RuleReader(Tokens tokens) {
            this.tokens = tokens;
        }

        boolean readRule(Rule target) {
            rule = target;
            waitingCount = 0;
            depth = 0;
            beginExpr();
            for (int i = 0; i <= TAPE_BYTES; i++) {
                if (!partDue && depth == 0 && tokens.kind == ';') {
                    release(1);
                    return true;
                }
                boolean stands = partDue ? readPart() : readJoint();
                if (!stands) {
                    return false;
                }
                tokens.advance();
            }
            return tokens.refuse(MISPLACED);
        }

        private void beginExpr() {
            exprBegins = true;
            beginTest();
        }

        private void beginTest() {
            comparedDepths &= ~(1 << depth);
            nots = 0;
            notMayStand = true;
            partDue = true;
        }

        private boolean readPart() {
            if (tokens.kind != NUMBER && tokens.kind != WORD && tokens.kind != '(') {
                return tokens.refuse(MISPLACED);
            }
            if (exprBegins && depth >= MOST_EXPRS) {
                return tokens.refuse(TOO_MUCH);
            }
            exprBegins = false;
            if (tokens.kind == '(') {
                hold(OPEN);
                depth++;
                beginExpr();
                return true;
            }
            if (tokens.kind == NUMBER) {
                return readNumber();
            }
            return notMayStand && tokens.isWord("not") ? readNot() : readValue();
        }

        private boolean readNumber() {
            if (!tokens.isNumber(0, HIGHEST_NUMBER)) {
                return false;
            }
            rule.add(tokens.value);
            partDue = false;
            return true;
        }

        private boolean readNot() {
            nots++;
            if (nots > MOST_NOTS) {
                return tokens.refuse(TOO_MUCH);
            }
            hold(NOT);
            return true;
        }

        private boolean readValue() {
            if (tokens.isWord("hour")) {
                rule.add(HOUR_VALUE);
            } else if (tokens.isWord("tick")) {
                rule.add(TICK_VALUE);
            } else if (tokens.isWord("day")) {
                rule.add(DAY_VALUE);
            } else if (tokens.isWord("wind")) {
                rule.add(WIND_VALUE);
            } else {
                return tokens.refuse(UNKNOWN);
            }
            partDue = false;
            return true;
        }

        private boolean readJoint() {
            int sign = jointOf();
            if (sign == 0) {
                return tokens.refuse(MISPLACED);
            }
            if (sign == OPEN) {
                return closeExpr();
            }
            release(rankOfSign(sign));
            hold(sign);
            if (sign == OR || sign == AND) {
                beginTest();
                return true;
            }
            if (sign == LESS || sign == SAME) {
                if ((comparedDepths >> depth & 1) != 0) {
                    return tokens.refuse(MISPLACED);
                }
                comparedDepths |= 1 << depth;
            }
            notMayStand = false;
            partDue = true;
            return true;
        }

        private int jointOf() {
            switch (tokens.kind) {
                case '+': return PLUS;
                case '-': return MINUS;
                case '*': return TIMES;
                case '/': return OVER;
                case '<': return LESS;
                case '=': return SAME;
                case ')': return OPEN;
                default: break;
            }
            if (tokens.isWord("or")) {
                return OR;
            }
            return tokens.isWord("and") ? AND : 0;
        }

        private boolean closeExpr() {
            if (depth == 0) {
                return tokens.refuse(MISPLACED);
            }
            release(1);
            waitingCount = Math.max(0, waitingCount - 1);
            depth--;
            return true;
        }

        private void hold(int sign) {
            if (waitingCount < waiting.length) {
                waiting[waitingCount] = sign;
                waitingCount++;
            }
        }

        /** Lets those that wait for no more parts go, back to the parenthesis that is open. */
        private void release(int rank) {
            while (waitingCount > 0 && waitingCount <= waiting.length
                    && rankOfSign(waiting[waitingCount - 1]) >= rank) {
                waitingCount--;
                rule.add(waiting[waitingCount]);
            }
        }

        private static int rankOfSign(int sign) {
            switch (sign) {
                case OR: return 1;
                case AND: return 2;
                case NOT: return 3;
                case LESS: case SAME: return 4;
                case PLUS: case MINUS: return 5;
                case TIMES: case OVER: return 6;
                default: return 0;
            }
        }
    }

    /** Reads a text into an island, line by line. */
    private static final class Reader {
        private static final int NO_LINE = 0;
        private static final int HEIGHT_LINE = 1;
        private static final int ROCK_LINE = 2;
        private static final int LADDER_LINE = 3;
        private static final int QUICK_LINE = 4;
        private static final int WALK_LINE = 5;
        private static final int HORSE_LINE = 6;
        private static final int STILTS_LINE = 7;
        private static final int RUN_LINE = 8;
        private static final int QUARREL_LINE = 9;
        private static final int MOVES_LINE = 10;
        private static final int WIND_LINE = 11;
        private static final int EBB_LINE = 12;
        private static final int WAIT_LINE = 13;
        private static final int FOG_LINE = 14;
        private static final int WATER_LINE = 15;

        private final Tokens tokens;
        private final RuleReader rules;
        private Island target;
        private int linesTold;
        private int number;

        Reader(byte[] tape) {
            tokens = new Tokens(tape);
            rules = new RuleReader(tokens);
        }

        int faultPlace() {
            return tokens.faultPlace;
        }

        int readAll(int bytes, Island island) {
            target = island;
            target.clear();
            linesTold = 0;
            tokens.open(bytes);
            boolean stands = !tokens.isWord("sands") || readSands();
            for (int i = 0; i <= TAPE_BYTES && stands && tokens.kind != END; i++) {
                stands = readLine() && tokens.takeSign(';');
            }
            target.sands.settle();
            return tokens.fault;
        }

        private boolean readSands() {
            tokens.advance();
            if (!takeNumber(3, 9)) {
                return false;
            }
            int wide = number;
            if (!takeNumber(1, 7)) {
                return false;
            }
            target.sands.clear(wide, number);
            return tokens.takeSign(';');
        }

        private boolean readLine() {
            switch (lineNumber()) {
                case HEIGHT_LINE: return readHeight();
                case ROCK_LINE: return readRock();
                case LADDER_LINE: return readLadder();
                case QUICK_LINE: return readQuick();
                case WALK_LINE: return readParty(WALK);
                case HORSE_LINE: return readParty(HORSE);
                case STILTS_LINE: return readParty(STILTS);
                case RUN_LINE: return readParty(RUN);
                case QUARREL_LINE: return readQuarrel();
                case MOVES_LINE: return isFirst(MOVES_LINE) && readMoves();
                case WIND_LINE: return isFirst(WIND_LINE) && readWind();
                case EBB_LINE: return isFirst(EBB_LINE) && readEbb();
                case WAIT_LINE: return isFirst(WAIT_LINE) && readWait();
                case FOG_LINE: return isFirst(FOG_LINE) && readFog();
                case WATER_LINE: return isFirst(WATER_LINE) && rules.readRule(target.rule);
                default: return tokens.refuse(MISPLACED);
            }
        }

        private int lineNumber() {
            if (tokens.isWord("height")) {
                return HEIGHT_LINE;
            }
            if (tokens.isWord("rock")) {
                return ROCK_LINE;
            }
            if (tokens.isWord("ladder")) {
                return LADDER_LINE;
            }
            if (tokens.isWord("quick")) {
                return QUICK_LINE;
            }
            if (tokens.isWord("walk")) {
                return WALK_LINE;
            }
            if (tokens.isWord("horse")) {
                return HORSE_LINE;
            }
            if (tokens.isWord("stilts")) {
                return STILTS_LINE;
            }
            if (tokens.isWord("run")) {
                return RUN_LINE;
            }
            return tokens.isWord("quarrel") ? QUARREL_LINE : singleLineNumber();
        }

        /** The lines that may be told but once. */
        private int singleLineNumber() {
            if (tokens.isWord("moves")) {
                return MOVES_LINE;
            }
            if (tokens.isWord("wind")) {
                return WIND_LINE;
            }
            if (tokens.isWord("ebb")) {
                return EBB_LINE;
            }
            if (tokens.isWord("wait")) {
                return WAIT_LINE;
            }
            if (tokens.isWord("fog")) {
                return FOG_LINE;
            }
            return tokens.isWord("water") ? WATER_LINE : NO_LINE;
        }

        private boolean isFirst(int line) {
            if ((linesTold >> line & 1) != 0) {
                return tokens.refuse(TWICE);
            }
            linesTold |= 1 << line;
            tokens.advance();
            return true;
        }

        private boolean takeNumber(int low, int high) {
            if (!tokens.isNumber(low, high)) {
                return false;
            }
            number = tokens.value;
            tokens.advance();
            return true;
        }

        private boolean takeSigned() {
            boolean minus = tokens.kind == '-';
            if (minus) {
                tokens.advance();
            }
            if (!tokens.isNumber(0, 2)) {
                return false;
            }
            number = minus ? -tokens.value : tokens.value;
            tokens.advance();
            return true;
        }

        /** Takes an X and a Y; number is the cell then. */
        private boolean takeCell(long taken) {
            tokens.advance();
            if (!tokens.isNumber(0, target.sands.wide - 1)) {
                return false;
            }
            int x = tokens.value;
            tokens.advance();
            if (!tokens.isNumber(0, target.sands.deep - 1)) {
                return false;
            }
            int cell = target.sands.wide * tokens.value + x;
            if (has(taken, cell)) {
                return tokens.refuse(TAKEN);
            }
            tokens.advance();
            number = cell;
            return true;
        }

        private boolean readHeight() {
            Sands sands = target.sands;
            if (!takeCell(sands.heightTold)) {
                return false;
            }
            int cell = number;
            if (!takeNumber(0, HEIGHTS - 1)) {
                return false;
            }
            sands.heightTold |= 1L << cell;
            if (cell >= 0 && cell < sands.heights.length) {
                sands.heights[cell] = number;
            }
            return true;
        }

        private boolean readRock() {
            Sands sands = target.sands;
            if (Long.bitCount(sands.rocks) >= MOST_MARKS) {
                return tokens.refuse(TOO_MUCH);
            }
            if (!takeCell(sands.rocks | sands.ladders | sands.shore | sands.isle)) {
                return false;
            }
            sands.rocks |= 1L << number;
            return true;
        }

        private boolean readLadder() {
            Sands sands = target.sands;
            if (Long.bitCount(sands.ladders) >= MOST_MARKS) {
                return tokens.refuse(TOO_MUCH);
            }
            if (!takeCell(sands.rocks | sands.ladders | sands.shore | sands.isle)) {
                return false;
            }
            sands.ladders |= 1L << number;
            return true;
        }

        private boolean readQuick() {
            Sands sands = target.sands;
            if (sands.quickCount >= sands.quickCells.length) {
                return tokens.refuse(TOO_MUCH);
            }
            if (!takeCell(sands.quickTold)) {
                return false;
            }
            sands.quickTold |= 1L << number;
            sands.quickCells[sands.quickCount] = number;
            sands.quickCount++;
            return true;
        }

        private boolean readMoves() {
            if (!takeSigned()) {
                return false;
            }
            target.sands.moveX = number;
            if (!takeSigned()) {
                return false;
            }
            target.sands.moveY = number;
            return true;
        }

        private boolean readWind() {
            boolean stands = takeNumber(0, WINDS - 1);
            target.wind = number;
            return stands;
        }

        private boolean readEbb() {
            boolean stands = takeNumber(1, 6);
            target.ebb = number;
            return stands;
        }

        private boolean readWait() {
            boolean stands = takeNumber(0, 20);
            target.wait = number;
            return stands;
        }

        private boolean readParty(int kind) {
            if (target.partyCount >= MOST_PARTIES) {
                return tokens.refuse(TOO_MUCH);
            }
            tokens.advance();
            Party party = target.parties[target.partyCount];
            party.kind = kind;
            party.foes = 0;
            if (!takeNumber(1, 4)) {
                return false;
            }
            party.speed = number;
            if (!takeNumber(0, 9)) {
                return false;
            }
            party.load = number;
            if (!takeNumber(0, target.sands.deep - 1)) {
                return false;
            }
            party.row = number;
            if (!takeNumber(0, LAST_DEATH)) {
                return false;
            }
            party.died = number;
            target.partyCount++;
            return true;
        }

        private boolean readQuarrel() {
            if (target.quarrels >= MOST_QUARRELS) {
                return tokens.refuse(TOO_MUCH);
            }
            tokens.advance();
            if (!isParty()) {
                return false;
            }
            int one = tokens.value;
            tokens.advance();
            if (!isParty()) {
                return false;
            }
            int other = tokens.value;
            if (one == other || (target.parties[one].foes >> other & 1) != 0) {
                return tokens.refuse(TAKEN);
            }
            tokens.advance();
            target.parties[one].foes |= 1 << other;
            target.parties[other].foes |= 1 << one;
            target.quarrels++;
            return true;
        }

        private boolean isParty() {
            if (!tokens.isNumber(0, HIGHEST_NUMBER)) {
                return false;
            }
            if (tokens.value >= target.partyCount || tokens.value >= MOST_PARTIES) {
                return tokens.refuse(UNKNOWN);
            }
            return true;
        }

        private boolean readFog() {
            int together = 0;
            for (int strength = 0; strength < STRENGTHS; strength++) {
                if (!tokens.isNumber(0, 9)) {
                    return false;
                }
                together += tokens.value;
                if (strength == STRENGTHS - 1 && together == 0) {
                    return tokens.refuse(TOO_MUCH);
                }
                target.fog[strength] = tokens.value;
                tokens.advance();
            }
            return true;
        }
    }

    /** Who can cross: where a party can be in each tick is kept as bits of cells. */
    private static final class Ferry {
        private Island island;
        private final byte[] levels = new byte[DAYS * TICKS];
        private long levelDays;
        // Two more than the tick in which a party comes soonest, as 0 says that it isn't known.
        private final int[] soonestKnown = new int[MOST_PARTIES * DAYS];
        private final long[] safe = new long[TICKS];
        private final long[] places = new long[TICKS];
        private final int[] takers = new int[4];
        private int home;
        private int step;

        Ferry(Island first) {
            island = first;
        }

        void enter(Island next) {
            island = next;
            levelDays = 0;
            Arrays.fill(soonestKnown, 0);
        }

        int levelOn(int day, int tick) {
            learnLevels(day);
            return levels[day * TICKS + tick];
        }

        private void learnLevels(int day) {
            if (has(levelDays, day)) {
                return;
            }
            for (int t = 0; t < TICKS; t++) {
                levels[day * TICKS + t] = (byte) island.rule.level(day, t, island.wind);
            }
            levelDays |= 1L << day;
        }

        int arrival(int party, int day, int tick) {
            prepare(party, island.parties[party].kind, day, island.wind, 0);
            return firstArrival(tick);
        }

        int arrivalInFog(int party, int day, int tick, int strength) {
            prepare(party, island.parties[party].kind, day, island.wind, strength);
            return firstArrival(tick);
        }

        int arrivalInWind(int party, int day, int tick, int wind) {
            prepare(party, island.parties[party].kind, day, wind, 0);
            return firstArrival(tick);
        }

        /** How many parties cross by 0 neither, 1 horses alone, 2 stilts alone, 3 both. */
        int[] takersOn(int day, int tick) {
            Arrays.fill(takers, 0);
            for (int party = 0; party < island.partyCount; party++) {
                prepare(party, HORSE, day, island.wind, 0);
                int by = firstArrival(tick) == NONE ? 0 : 1;
                prepare(party, STILTS, day, island.wind, 0);
                by += firstArrival(tick) == NONE ? 0 : 2;
                takers[by]++;
            }
            return takers;
        }

        /** The soonest arrival of all starts is that of tick 0, as one can wait ashore. */
        int soonest(int party, int day) {
            int place = party * DAYS + day;
            if (soonestKnown[place] == 0) {
                prepare(party, island.parties[party].kind, day, island.wind, 0);
                soonestKnown[place] = firstArrival(0) + 2;
            }
            return soonestKnown[place] - 2;
        }

        int lastStart(int party, int day) {
            prepare(party, island.parties[party].kind, day, island.wind, 0);
            for (int t = TICKS - 1; t >= 0; t--) {
                long cells = island.sands.isle | cellsBefore(t, TICKS - 1);
                places[t] = cells;
                if (has(cells, home)) {
                    return t;
                }
            }
            return NONE;
        }

        /** Writes the first of all ways of the crossing that was asked for last. */
        void trace(int first, int last, int[] row, int base) {
            if (first < 0 || last >= TICKS || base < 0 || base + TICKS > row.length) {
                return;
            }
            places[last] = island.sands.isle;
            for (int t = last - 1; t >= first; t--) {
                places[t] = cellsBefore(t, last);
            }
            int cell = home;
            int stepEnds = first;
            row[base + first] = cell;
            for (int t = first + 1; t <= last; t++) {
                if (t > stepEnds) {
                    int next = nextCell(cell, t - 1, last);
                    stepEnds = next == cell ? t : t - 1 + step;
                    cell = next;
                }
                row[base + t] = cell;
            }
        }

        private void prepare(int party, int kind, int day, int wind, int strength) {
            Sands sands = island.sands;
            Party who = island.parties[party];
            home = sands.wide * who.row;
            step = Math.max(1, (kind == RUN ? (who.speed + 1) / 2 : who.speed) + strength);
            long firm = sands.firmFor(who.load, day);
            learnLevels(day);
            int before = NONE;
            for (int t = 0; t < TICKS; t++) {
                int level = wind == island.wind ? levels[day * TICKS + t] : island.rule.level(day, t, wind);
                // The water mostly stands for some ticks.
                safe[t] = level == before && t > 0 ? safe[t - 1] : sands.safeFor(kind, who.load, level, firm);
                before = level;
            }
        }

        private int firstArrival(int tick) {
            Arrays.fill(places, 0L);
            places[tick] = 1L << home;
            for (int t = tick; t < TICKS; t++) {
                long cells = places[t];
                if ((cells & island.sands.isle) != 0) {
                    return t;
                }
                if (t + 1 < TICKS) {
                    places[t + 1] |= cells & safe[t + 1];
                }
                if (t + step < TICKS) {
                    places[t + step] |= island.sands.beside(cells) & safeFrom(t);
                }
            }
            return NONE;
        }

        /** The cells that are safe in all ticks of a step that is begun in a tick. */
        private long safeFrom(int tick) {
            long cells = island.sands.all;
            for (int t = tick + 1; t <= tick + step && t < TICKS; t++) {
                cells &= safe[t];
            }
            return cells;
        }

        /** The cells from which one comes, by waiting or a step, to the places of later ticks. */
        private long cellsBefore(int tick, int last) {
            long cells = 0;
            if (tick + 1 <= last) {
                cells = places[tick + 1] & safe[tick + 1];
            }
            if (tick + step <= last) {
                cells |= island.sands.beside(places[tick + step] & safeFrom(tick));
            }
            return cells;
        }

        private int nextCell(int cell, int tick, int last) {
            long choice = 0;
            if (tick + 1 <= last) {
                choice = places[tick + 1] & safe[tick + 1] & 1L << cell;
            }
            if (tick + step <= last) {
                choice |= places[tick + step] & safeFrom(tick) & island.sands.beside(1L << cell);
            }
            for (int next = 0; next < MOST_CELLS; next++) {
                if (has(choice, next)) {
                    return next;
                }
            }
            return cell;
        }
    }

    /** Who is buried when. */
    private static final class Planner {
        private static final int TOO_MANY = 99;

        private final Ferry ferry;
        private final long[] openDays = new long[MOST_PARTIES];
        private final boolean[] together = new boolean[PARTY_SETS];
        private final int[] fewest = new int[PARTY_SETS];
        private final int[] planned = new int[MOST_PARTIES];

        Planner(Ferry ferry) {
            this.ferry = ferry;
        }

        int plannedDay(int party) {
            return planned[party];
        }

        /** Plans the burials: how many ebbs, or NONE. */
        int plan() {
            Island island = ferry.island;
            for (int party = 0; party < island.partyCount; party++) {
                int died = island.parties[party].died;
                openDays[party] = 0;
                for (int day = died; day <= died + island.wait && day < DAYS; day++) {
                    openDays[party] |= ferry.soonest(party, day) == NONE ? 0L : 1L << day;
                }
            }
            findTogether();
            int ebbs = fewestEbbs();
            if (ebbs == TOO_MANY) {
                return NONE;
            }
            for (int party = 0; party < island.partyCount; party++) {
                planned[party] = firstDay(party, ebbs);
            }
            return ebbs;
        }

        /** The first day that leaves the ebbs as few; the party is bound to it. */
        private int firstDay(int party, int ebbs) {
            long open = openDays[party];
            for (int day = 0; day < DAYS; day++) {
                if (has(open, day)) {
                    openDays[party] = 1L << day;
                    if (fewestEbbs() == ebbs) {
                        return day;
                    }
                }
            }
            return NONE;
        }

        private void findTogether() {
            Island island = ferry.island;
            for (int set = 0; set < PARTY_SETS; set++) {
                boolean fit = Integer.bitCount(set) <= island.ebb;
                for (int party = 0; party < island.partyCount; party++) {
                    fit = fit && ((set >> party & 1) == 0 || (island.parties[party].foes & set) == 0);
                }
                together[set] = fit;
            }
        }

        private int fewestEbbs() {
            int everybody = (1 << ferry.island.partyCount) - 1;
            Arrays.fill(fewest, TOO_MANY);
            fewest[0] = 0;
            for (int day = 0; day < DAYS; day++) {
                int able = partiesOpenOn(day);
                // From the fullest set down, so that the smaller ones still hold what earlier days gave.
                for (int set = everybody; set > 0 && able != 0; set--) {
                    for (int some = set & able; some > 0; some = some - 1 & set & able) {
                        if (together[some]) {
                            fewest[set] = Math.min(fewest[set], fewest[set ^ some] + 1);
                        }
                    }
                }
            }
            return Math.min(fewest[everybody], TOO_MANY);
        }

        private int partiesOpenOn(int day) {
            int able = 0;
            for (int party = 0; party < ferry.island.partyCount; party++) {
                if (has(openDays[party], day)) {
                    able |= 1 << party;
                }
            }
            return able;
        }

        int dayInQueue(int wanted) {
            int left = (1 << ferry.island.partyCount) - 1;
            for (int day = 0; day < DAYS; day++) {
                int buried = buriedOn(day, left);
                if ((buried >> wanted & 1) != 0) {
                    return day;
                }
                left &= ~buried;
            }
            return NONE;
        }

        private int buriedOn(int day, int left) {
            Island island = ferry.island;
            int buried = 0;
            for (int died = 0; died <= day && died <= LAST_DEATH; died++) {
                for (int party = 0; party < island.partyCount; party++) {
                    Party who = island.parties[party];
                    if (who.died == died && (left >> party & 1) != 0 && (who.foes & buried) == 0
                            && Integer.bitCount(buried) < island.ebb && ferry.soonest(party, day) != NONE) {
                        buried |= 1 << party;
                    }
                }
            }
            return buried;
        }

        int rankOf(int party) {
            int comes = comingOf(party);
            if (comes == NONE) {
                return NONE;
            }
            int ahead = 0;
            for (int other = 0; other < ferry.island.partyCount; other++) {
                int coming = comingOf(other);
                if (coming != NONE && (coming < comes || coming == comes && other < party)) {
                    ahead++;
                }
            }
            return ahead;
        }

        /** When a party comes to inherit, in ticks from day 0 on. */
        private int comingOf(int party) {
            for (int day = ferry.island.parties[party].died; day < DAYS; day++) {
                int arrival = ferry.soonest(party, day);
                if (arrival != NONE) {
                    return day * TICKS + arrival;
                }
            }
            return NONE;
        }
    }

    /** What is booked, who sank and what was refused: what an image keeps. */
    private static final class Ledger {
        final int[] party = new int[MOST_BOOKED];
        final int[] day = new int[MOST_BOOKED];
        final int[] first = new int[MOST_BOOKED];
        final int[] last = new int[MOST_BOOKED];
        final int[] ways = new int[MOST_BOOKED * TICKS];
        int bookedCount;
        final int[] sankCell = new int[MOST_SANK];
        final int[] sankDay = new int[MOST_SANK];
        int sankBits;
        int sankCount;
        final int[] refused = new int[3];

        void copyFrom(Ledger other) {
            System.arraycopy(other.party, 0, party, 0, MOST_BOOKED);
            System.arraycopy(other.day, 0, day, 0, MOST_BOOKED);
            System.arraycopy(other.first, 0, first, 0, MOST_BOOKED);
            System.arraycopy(other.last, 0, last, 0, MOST_BOOKED);
            System.arraycopy(other.ways, 0, ways, 0, MOST_BOOKED * TICKS);
            bookedCount = other.bookedCount;
            System.arraycopy(other.sankCell, 0, sankCell, 0, MOST_SANK);
            System.arraycopy(other.sankDay, 0, sankDay, 0, MOST_SANK);
            sankBits = other.sankBits;
            sankCount = other.sankCount;
            System.arraycopy(other.refused, 0, refused, 0, refused.length);
        }

        boolean hasParty(int wanted) {
            for (int i = 0; i < bookedCount && i < MOST_BOOKED; i++) {
                if (party[i] == wanted) {
                    return true;
                }
            }
            return false;
        }

        int partiesOn(int wanted) {
            int parties = 0;
            for (int i = 0; i < bookedCount && i < MOST_BOOKED; i++) {
                if (day[i] == wanted) {
                    parties |= 1 << party[i];
                }
            }
            return parties;
        }

        int placeOf(int i, int tick) {
            return tick < first[i] || tick > last[i] ? NONE : ways[i * TICKS + tick];
        }

        /** The first tick of a day in which two are on one ladder, but for the parties left ashore. */
        int firstCrowd(int wanted, long ladders, int left) {
            for (int tick = 0; tick < TICKS; tick++) {
                long taken = 0;
                for (int i = 0; i < bookedCount && i < MOST_BOOKED; i++) {
                    int place = day[i] != wanted || (left >> party[i] & 1) != 0 ? NONE : placeOf(i, tick);
                    long ladder = place == NONE ? 0L : 1L << place & ladders;
                    if ((taken & ladder) != 0) {
                        return tick;
                    }
                    taken |= ladder;
                }
            }
            return NONE;
        }
    }
}
