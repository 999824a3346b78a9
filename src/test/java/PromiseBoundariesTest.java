import java.util.NoSuchElementException;

/** The boundary cases that the promises name: what is refused, what is empty or full, and that a refused call changes nothing. */
public final class PromiseBoundariesTest extends Checks {
    private static final String DRY = "sands 3 1;water 0;";
    private static final int[] NO_DAYS = {-1, 41, LEAST, MOST};
    private static final int[] NO_TICKS = {-1, 96, LEAST, MOST};
    private static final int[] NO_CELLS = {-1, 3, LEAST, MOST};
    private static final int[] NO_PARTIES = {-1, 2, LEAST, MOST};

    interface Asked {
        long answer(int number);
    }

    public static void main(String[] args) {
        texts();
        told();
        crossings();
        bookings();
        burials();
        sank();
        chances();
        images();
        end("PromiseBoundariesTest");
    }

    private static void texts() {
        says("`NONE = -1`: There is none.", () -> due("NONE", EbbIsland.NONE, -1));
        says("All as without, no PARTIES.", PromiseBoundariesTest::newObject);
        says("Twenty bytes come behind the tape, of each number the highest first: how many it has;",
                PromiseBoundariesTest::bytes);
        says("NONE, and none come, if it would have more than 700.", PromiseBoundariesTest::fullTape);
        says("The tape's first n bytes (it is empty then) are an ISLAND, all anew", PromiseBoundariesTest::firstBytes);
        says("0, or the FAULT (all stays, but STATUS).", PromiseBoundariesTest::allStays);
        says("What is BOOKED, SANK, rows that are kept, the image are gone.", PromiseBoundariesTest::allGone);
        says("are an ISLAND, all anew", PromiseBoundariesTest::allAnew);
        says("IllegalArgumentException: the tape has not so many, n below 0 (nothing changes).",
                PromiseBoundariesTest::notSoMany);
        says("The place of the latest island()'s FAULT; NONE without.", PromiseBoundariesTest::latestFault);
    }

    private static void told() {
        says("20 to 23 WEIGHTS of FOG. NoSuchElementException: another what.", () -> {
            EbbIsland x = of(DRY);
            none(x, "count", x::count, -1, 16, 17, 18, 19, 24, LEAST, MOST);
        });
        says("NoSuchElementException: no such CELL (as everywhere), what.", () -> {
            EbbIsland x = of(DRY);
            none(x, "cell", c -> x.cell(c, 0), NO_CELLS);
            none(x, "what", w -> x.cell(2, w), -1, 2, LEAST, MOST);
            none(x, "both", c -> x.cell(c, 2), NO_CELLS);
            EbbIsland largest = of("sands 9 7;");
            due("the last one", largest.cell(62, 1), 4);
            none(largest, "cell", c -> largest.cell(c, 1), -1, 63, 64);
        });
        says("NoSuchElementException: also no such DAY (0 to 40, as everywhere).", () -> {
            EbbIsland x = of(DRY);
            none(x, "day", d -> x.quick(0, d) ? 1 : 0, NO_DAYS);
            none(x, "cell", c -> x.quick(c, 0) ? 1 : 0, NO_CELLS);
            due("the last day", x.quick(2, 40), false);
        });
        says("NoSuchElementException: no such DAY, TICK (0 to 95, as everywhere).", () -> {
            EbbIsland x = of(DRY);
            none(x, "day", d -> x.water(d, 95), NO_DAYS);
            none(x, "tick", t -> x.water(40, t), NO_TICKS);
        });
        says("NoSuchElementException: no such PARTY (as everywhere), what.", () -> {
            EbbIsland x = two();
            none(x, "party", p -> x.party(p, 0), NO_PARTIES);
            none(x, "what", w -> x.party(1, w), -1, 6, LEAST, MOST);
            EbbIsland empty = new EbbIsland();
            none(empty, "party", p -> empty.party(p, 0), 0, 1, 5, -1);
        });
        says("5 with whom it QUARRELS (bits).", PromiseBoundariesTest::quarrelBits);
        says("Whether a PARTY may be on a CELL.", () -> {
            EbbIsland x = two();
            none(x, "party", p -> x.may(p, 0, 0, 0) ? 1 : 0, NO_PARTIES);
            none(x, "cell", c -> x.may(0, c, 0, 0) ? 1 : 0, NO_CELLS);
            none(x, "day", d -> x.may(0, 0, d, 0) ? 1 : 0, NO_DAYS);
            none(x, "tick", t -> x.may(0, 0, 0, t) ? 1 : 0, NO_TICKS);
            due("the last of each", x.may(1, 2, 40, 95), true);
        });
    }

    private static void crossings() {
        says("ITS WAY is kept. NONE: it can't (what is kept stays).", PromiseBoundariesTest::wayStays);
        says("how many there are (i NONE).", () -> {
            EbbIsland x = two();
            x.cross(0, 0, 93);
            due("how many", x.way(NONE), 3);
            due("the last", x.way(2), 2);
            none(x, "i", x::way, -2, 3, 93, 95, LEAST, MOST);
        });
        says("NoSuchElementException: none is kept, there is none.", () -> {
            EbbIsland x = of(DRY + "walk 1 1 0 0;walk 1 1 0 0;");
            none(x, "none is kept", x::way, NONE, 0, 1);
            due("it can't", x.cross(0, 0, 94), NONE);
            none(x, "none is kept yet", x::way, NONE, 0, 1);
        });
        says("NONE of 1 to 3: none. NoSuchElementException: also another what.", () -> {
            EbbIsland x = two();
            none(x, "party", p -> x.starts(p, 0, 0), NO_PARTIES);
            none(x, "day", d -> x.starts(0, d, 0), NO_DAYS);
            none(x, "what", w -> x.starts(0, 0, w), -1, 4, LEAST, MOST);
            EbbIsland never = of("sands 3 1;water 9;walk 1 1 0 0;");
            for (int what = 0; what < 4; what++) {
                due("none, what " + what, never.starts(0, 40, what), what == 0 ? 0 : NONE);
            }
        });
        says("A CROSSING: when it ARRIVES;", () -> {
            EbbIsland x = two();
            starts(x, (p, d, t) -> x.cross(p, d, t));
        });
    }

    private static void bookings() {
        says("NONE (STATUS 1): there are 12, it can't be so. NoSuchElementException (ahead): no such PARTY, DAY, TICK.",
                PromiseBoundariesTest::refusedBookings);
        says("What was BOOKED last is UNDONE: how many are left. NONE: there is none.",
                PromiseBoundariesTest::undone);
        says("3 when it ARRIVES. NoSuchElementException: there is none, another what.", () -> {
            EbbIsland x = two();
            none(x, "none is booked", i -> x.booked(i, 0), 0, -1, LEAST, MOST);
            x.book(0, 0, 0);
            none(x, "i", i -> x.booked(i, 0), -1, 1, 11, 12, LEAST, MOST);
            none(x, "what", w -> x.booked(0, w), -1, 4, LEAST, MOST);
            x.undo();
            none(x, "it is undone", i -> x.booked(i, 0), 0);
        });
        says("NONE: it hasn't begun, or has ARRIVED ahead of it. NoSuchElementException: also no such TICK.",
                PromiseBoundariesTest::placesInTime);
        says("NONE: they haven't. NoSuchElementException: there are none. IllegalArgumentException (behind that): both are one.",
                PromiseBoundariesTest::bothAreOne);
        says("the first TICK in which they are on some LADDER; NONE: none.", () -> {
            EbbIsland x = two();
            none(x, "day", x::crowded, NO_DAYS);
            due("none is booked", x.crowded(40), NONE);
        });
        says("WHOM TO LEAVE, as bits of PARTIES (0: none).", () -> {
            EbbIsland x = two();
            none(x, "day", x::leave, NO_DAYS);
            due("none is booked", x.leave(40), 0);
        });
    }

    private static void burials() {
        says("how many EBBS (0 without PARTIES); they are kept. NONE: it can't be (what is kept stays).",
                PromiseBoundariesTest::keptBurials);
        says("The DAY of a PARTY by BURIALS that are kept. NoSuchElementException: also none are kept.", () -> {
            EbbIsland x = two();
            none(x, "none are kept", x::buried, 0, 1);
            x.burials();
            due("kept", x.buried(0) + x.buried(1), 0);
            none(x, "party", x::buried, NO_PARTIES);
        });
        says("the DAY of a PARTY; NONE: none by 40.", () -> {
            EbbIsland x = two();
            none(x, "party", x::queue, NO_PARTIES);
            due("none by 40", of("sands 3 1;water 9;walk 1 1 0 0;").queue(0), NONE);
            due("just by 40", of("sands 3 1;water (day<40)*9;walk 1 1 0 0;").queue(0), 40);
        });
        says("the how manieth (0 on); NONE: it never can.", () -> {
            EbbIsland x = two();
            none(x, "party", x::heir, NO_PARTIES);
            due("never", of("sands 3 1;water 9;walk 1 1 0 0;").heir(0), NONE);
            due("on day 40", of("sands 3 1;water (day<40)*9;walk 1 1 0 0;").heir(0), 0);
        });
    }

    private static void sank() {
        says("NONE (STATUS 2): there are 12. NoSuchElementException (ahead): no such CELL, DAY.",
                PromiseBoundariesTest::fullSank);
        says("What SANK last is forgotten: how many are left. NONE: there is none.", PromiseBoundariesTest::forgotten);
        says("the least (1; NONE: none). NoSuchElementException: another what.", () -> {
            EbbIsland x = of(DRY);
            none(x, "what", x::motions, -1, 2, LEAST, MOST);
            x.sink(0, 0, true);
            due("how many of none", x.motions(0), 0);
            due("the least of none", x.motions(1), NONE);
        });
        says("as bits (0, if no MOTION fits).", () -> {
            EbbIsland x = of(DRY);
            none(x, "day", d -> x.sound(d, false), NO_DAYS);
            none(x, "day", d -> x.sound(d, true), NO_DAYS);
            due("all fit", x.sound(40, false), 7);
            x.sink(0, 0, true);
            due("none fits", x.sound(40, false) + x.sound(40, true), 0);
        });
    }

    private static void chances() {
        says("LATE; NONE: none.", () -> {
            EbbIsland x = two();
            starts(x, (p, d, t) -> x.late(p, d, t));
            due("none", x.late(1, 40, 95), NONE);
        });
        says("IllegalArgumentException (behind NoSuchElementException): so many are below 0, or there is no such TICK.",
                PromiseBoundariesTest::soManyLater);
        says("how likely (what 0, 1: the upper, the lower part), in the mean (2, 3). NoSuchElementException: also another what.",
                () -> {
                    EbbIsland x = two();
                    starts(x, (p, d, t) -> x.vigil(p, d, t, 0));
                    none(x, "what", w -> x.vigil(0, 0, 0, w), -1, 4, LEAST, MOST);
                });
        says("10 by horses' and stilts' (1; NONE: none rests). NoSuchElementException: also another what.", () -> {
            EbbIsland x = two();
            none(x, "day", d -> x.rents(d, 0, 0), NO_DAYS);
            none(x, "tick", t -> x.rents(0, t, 0), NO_TICKS);
            none(x, "what", w -> x.rents(0, 0, w), -1, 2, LEAST, MOST);
            due("none rests", of(DRY + "walk 1 7 0 0;walk 1 0 0 0;").rents(0, 0, 1), NONE);
        });
        says("WARNINGS; NONE: none.", () -> {
            EbbIsland x = two();
            starts(x, (p, d, t) -> x.warning(p, d, t));
            due("none", x.warning(1, 40, 93), NONE);
        });
        says("on how many DAYS. IllegalArgumentException (behind NoSuchElementException): n.",
                PromiseBoundariesTest::soManyDays);
    }

    private static void images() {
        says("AN IMAGE is kept, in place of another one.", PromiseBoundariesTest::inPlaceOfAnother);
        says("It is as the IMAGE again: true. False: there is none.", PromiseBoundariesTest::restored);
    }

    private static EbbIsland two() {
        return of(DRY + "walk 1 1 0 0;run 1 1 0 0;");
    }

    /** Each number is refused as none such, and changes nothing. */
    private static void none(EbbIsland x, String what, Asked asked, int... numbers) {
        String before = look(x);
        for (int number : numbers) {
            noSuch(what + " " + number, () -> asked.answer(number));
        }
        due("nothing changes by " + what, look(x), before);
    }

    interface Start {
        long answer(int party, int day, int tick);
    }

    /** A call from a tick of a day on by one of two parties: the last of each is one, those beside are none. */
    private static void starts(EbbIsland x, Start start) {
        none(x, "party", p -> start.answer(p, 0, 0), NO_PARTIES);
        none(x, "day", d -> start.answer(0, d, 0), NO_DAYS);
        none(x, "tick", t -> start.answer(0, 0, t), NO_TICKS);
        due("the first of each", refuses(() -> start.answer(0, 0, 0)), false);
        due("the last of each", refuses(() -> start.answer(1, 40, 95)), false);
    }

    private static boolean refuses(Call call) {
        try {
            call.answer();
            return false;
        } catch (NoSuchElementException e) {
            return true;
        }
    }

    private static void newObject() {
        EbbIsland x = new EbbIsland();
        String fresh = look(x);
        due("as an empty text tells it", look(of("")), fresh);
        due("W, H", x.count(0) * 10 + x.count(1), 64);
        due("no parties", x.count(8), 0);
        due("no tape", x.count(12), 0);
        due("no fault", x.fault(), NONE);
        due("no burials", x.burials(), 0);
        due("none to undo", x.undo(), NONE);
        due("none to forget", x.forget(), NONE);
        due("no image", x.restore(), false);
        due("the empty text", x.island(0), 0);
        for (int what : new int[] {0, 1, 2, 3, 4, 5}) {
            noSuch("party", () -> x.party(0, what));
        }
        noSuch("cross", () -> x.cross(0, 0, 0));
        noSuch("book", () -> x.book(0, 0, 0));
        noSuch("queue", () -> x.queue(0));
        noSuch("heir", () -> x.heir(0));
        noSuch("buried", () -> x.buried(0));
        noSuch("booked", () -> x.booked(0, 0));
        noSuch("met", () -> x.met(0, 1));
        noSuch("fogs", () -> x.fogs(0, 0, 0, 0));
        due("nothing was refused", x.count(13) + x.count(14) + x.count(15), 0);
    }

    private static void bytes() {
        EbbIsland x = new EbbIsland();
        due("first", x.feed(0x77696e64, 0x20373b65, 0x62622035, 0x3b776169, 0x74203137), 20);
        due("behind it", x.feed(0x3b72756e, 0x20312032, 0x20332034, 0x3bffffff, NONE), 40);
        due("the tape", x.count(12), 40);
        due("all but its last seven", x.island(33), 0);
        due("wind, ebb, wait", x.count(5) * 10000 + x.count(6) * 100 + x.count(7), 70517);
        due("the run", x.party(0, 1) * 1000 + x.party(0, 2) * 100 + x.party(0, 3) * 10 + x.party(0, 4), 1234);
        x.feed(0x77696e64, 0x20373bff, 0, 0, 0);
        due("a byte of 255 is no token", x.island(8), 1);
        due("its place", x.fault(), 7);
    }

    private static void fullTape() {
        EbbIsland x = new EbbIsland();
        for (int i = 1; i <= 35; i++) {
            due("feed " + i, x.feed(0x20202020, 0x20202020, 0x20202020, 0x20202020, 0x20202020), 20 * i);
        }
        for (int i = 0; i < 3; i++) {
            due("no more", x.feed(1, 2, 3, 4, 5), NONE);
            due("none come", x.count(12), 700);
        }
        due("what is there is as it was", x.island(700), 0);
        due("then it is empty", x.count(12), 0);
        due("and takes bytes again", x.feed(1, 2, 3, 4, 5), 20);
    }

    private static void firstBytes() {
        EbbIsland x = new EbbIsland();
        feed(x, "wind 7;ebb 5;walk 1 1 1 1;");
        due("the first seven", x.island(7), 0);
        due("no more", x.count(5) * 10 + x.count(6), 72);
        due("it is empty", x.count(12), 0);
        due("so nothing is left", x.island(0), 0);
        due("all anew", x.count(5), 0);
        feed(x, "wind 7;");
        due("a fault", x.island(6), 1);
        due("it is empty behind a fault, too", x.count(12), 0);
        feed(x, "wind 7;             ");
        due("all twenty", x.island(20), 0);
        due("wind", x.count(5), 7);
    }

    /** An island on which all is kept that can be. */
    private static EbbIsland busy() {
        EbbIsland x = of("sands 4 2;quick 1 0;moves 1 1;water 0;wind 3;ebb 6;wait 4;fog 1 2 3 4;walk 1 1 0 0;run 2 0 1 3;quarrel 0 1;");
        x.cross(0, 1, 5);
        x.burials();
        x.book(0, 1, 0);
        x.sink(1, 0, true);
        x.sink(6, 1, true);
        return x;
    }

    private static void allStays() {
        EbbIsland x = busy();
        x.image();
        String before = look(x);
        String other = "sands 9 7;height 1 1 1;rock 1 1;quick 2 2;moves 2 2;wind 9;ebb 1;wait 1;fog 4 3 2 1;"
                + "walk 4 4 4 4;water 20;walk 4 4 4 4;quarrel 0 1;";
        due("a fault", tell(x, other + "x"), 1);
        due("refused", x.count(13), 1);
        due("its place", x.fault(), other.length());
        due("the water", x.water(0, 0), 0);
        due("a height", x.cell(5, 0), 4);
        due("the quicksand", x.quick(1, 0), true);
        due("a party", x.party(1, 0), 3);
        due("the image", x.restore(), true);
        due("all else", look(x).replace("fault " + other.length(), "fault -1"), before);
        due("the crossing", x.cross(1, 0, 0), 3);
    }

    private static void allGone() {
        EbbIsland x = busy();
        x.book(1, 0, 0);
        x.image();
        due("told anew", tell(x, "sands 4 2;walk 1 1 0 0;run 2 0 1 3;"), 0);
        due("booked, sank", x.count(10) + x.count(11), 0);
        due("quarrels", x.count(9) + x.party(0, 5) + x.party(1, 5), 0);
        due("the image", x.restore(), false);
        noSuch("the way", () -> x.way(NONE));
        noSuch("burials", () -> x.buried(0));
        noSuch("what was booked", () -> x.booked(0, 0));
        due("none to undo", x.undo(), NONE);
        due("none to forget", x.forget(), NONE);
        due("the quicksand", x.count(2) + x.count(3) + x.count(4), 0);
        due("the wind", x.count(5), 0);
        due("ebb and wait", x.count(6) * 10 + x.count(7), 29);
        due("the fog", x.count(20) * 1000 + x.count(21) + x.count(22) + x.count(23), 1000);
        due("the water", x.water(0, 24), 6);
        due("all motions fit", x.motions(0), 25);
        due("the status stays", x.count(14), 1);
        EbbIsland y = of("sands 9 7;rock 1 1;ladder 2 2;height 3 3 9;water day;walk 4 1 6 0;");
        y.cross(0, 0, 0);
        y.water(3, 3);
        due("as a new one but for the status", tell(y, ""), 0);
        due("so it looks", look(y), look(new EbbIsland()));
        due("its cells", y.cell(10, 1) * 100 + y.cell(20, 1) * 10 + y.cell(21, 0), 4);
        due("its water", y.water(3, 3), 0);
    }

    /** Whatever was told before, or was begun and had a fault: a text tells what it tells to a new object. */
    private static void allAnew() {
        String all = "sands 9 7;height 1 1 9;height 2 2 9;rock 3 3;ladder 4 4;quick 1 1;quick 2 2;moves 2 -1;wind 9;ebb 6;wait 20;"
                + "fog 0 9 9 9;walk 4 9 6 20;horse 4 9 6 20;quarrel 0 1;stilts 4 9 6 20;run 4 9 6 20;quarrel 2 3;water 20";
        String next = "sands 4 2;height 1 1 5;rock 2 1;quick 1 1;walk 1 1 0 0;walk 1 1 1 0;walk 1 1 0 2;";
        String[] faults = {all, all + "+", all + "<(not 1 and (2*(3", all + "+not", all + " and not not", all + " or (",
            all + ";sands 9 7;", all + ";quarrel 0 1;", all + ";water 1;", all + ";run 5"};
        String want = seen(of(next));
        String wantRule = seen(of(next + "water (day<3)*4+hour/3;"));
        for (String fault : faults) {
            EbbIsland x = new EbbIsland();
            due("no fault in " + fault, tell(x, fault) != 0, true);
            due("an island behind a fault", tell(x, next + "water (day<3)*4+hour/3;"), 0);
            due("as a new one behind " + fault, seen(x), wantRule.replace("status 0", "status 1"));
            due("another one", tell(x, next), 0);
            due("as a new one behind an island", seen(x), want.replace("status 0", "status 1"));
        }
        EbbIsland rule = new EbbIsland();
        for (String longer : new String[] {"not 1", "not not 0", "1 and 0", "3*0", "7<2"}) {
            tell(rule, "water " + longer + ";x");
            due("a shorter rule behind " + longer, tell(rule, "water 5;"), 0);
            due("is that alone", rule.water(0, 0), 5);
        }
        EbbIsland y = of(all + ";");
        for (int i = 0; i < 2; i++) {
            due("one", tell(y, next), 0);
            due("as a new one", seen(y), want);
            due("the other one", tell(y, all + ";"), 0);
        }
    }

    /** What an island is and who crosses it, asked for so that all that is kept of one is needed. */
    private static String seen(EbbIsland x) {
        StringBuilder b = new StringBuilder("status " + x.count(13));
        for (int what = 0; what < 10; what++) {
            b.append(' ').append(x.count(what));
        }
        for (int cell = 0; cell < 8; cell++) {
            b.append(" cell ").append(x.cell(cell, 0)).append(x.cell(cell, 1)).append(x.quick(cell, 0)).append(x.quick(cell, 1));
        }
        b.append(" burials ").append(x.burials());
        for (int party = 0; party < x.count(8); party++) {
            b.append(" party");
            for (int what = 0; what < 6; what++) {
                b.append(' ').append(x.party(party, what));
            }
            b.append(" heir ").append(x.heir(party)).append(" queue ").append(x.queue(party)).append(" crosses ");
            for (int day = 0; day < 4; day++) {
                b.append(' ').append(x.starts(party, day, 3)).append(' ').append(x.starts(party, day, 2)).append(' ').append(x.cross(party, day, 9));
            }
            b.append(" vigil ").append(x.vigil(party, 3, 0, 2)).append(" fogs ").append(x.fogs(party, 0, 1, 9));
            b.append(" warning ").append(x.warning(party, 3, 80));
        }
        return b.append(" water ").append(x.water(0, 0)).append(' ').append(x.water(3, 50)).append(" motions ").append(x.sound(1, true)).toString();
    }

    private static void notSoMany() {
        EbbIsland x = busy();
        x.image();
        feed(x, "wind 9;");
        String before = look(x);
        for (int n : new int[] {21, 700, 701, MOST, -1, LEAST}) {
            illegal("island of " + n, () -> x.island(n));
        }
        due("nothing changes", look(x), before);
        due("nor the tape", x.island(7), 0);
        due("its wind", x.count(5), 9);
        illegal("an empty tape", () -> x.island(1));
        due("but for no bytes", x.island(0), 0);
    }

    private static void latestFault() {
        EbbIsland x = new EbbIsland();
        due("before any", x.fault(), NONE);
        tell(x, "x");
        due("at the first byte", x.fault(), 0);
        tell(x, "wind");
        due("the latest", x.fault(), 4);
        illegal("a refused one", () -> x.island(1));
        due("is none", x.fault(), 4);
        tell(x, " ".repeat(700));
        due("without", x.fault(), NONE);
        tell(x, " ".repeat(696) + "wind");
        due("the text's length", x.fault(), 700);
    }

    private static void quarrelBits() {
        EbbIsland x = of(DRY + "walk 1 1 0 0;".repeat(6) + "quarrel 0 5;quarrel 5 4;quarrel 1 5;");
        int[] bits = {32, 32, 0, 0, 32, 19};
        for (int party = 0; party < 6; party++) {
            due("of " + party, x.party(party, 5), bits[party]);
        }
    }

    private static void wayStays() {
        EbbIsland x = two();
        due("it can", x.cross(0, 0, 90), 92);
        due("it can't", x.cross(0, 0, 94), NONE);
        due("how many", x.way(NONE), 3);
        due("the first", x.way(0) * 100 + x.way(1) * 10 + x.way(2), 12);
        noSuch("no party", () -> x.cross(2, 0, 0));
        x.book(1, 0, 0);
        x.late(0, 0, 0);
        x.starts(0, 0, 0);
        x.costs(0, 0, 0, 9);
        x.vigil(0, 0, 0, 0);
        x.burials();
        x.image();
        x.restore();
        due("others leave it", x.way(NONE), 3);
        EbbIsland longer = of("sands 3 1;water (tick<50)*9;walk 1 1 0 0;");
        longer.cross(0, 0, 0);
        due("a long one", longer.way(NONE), 52);
        longer.cross(0, 0, 60);
        due("a short one in its place", longer.way(NONE), 3);
        noSuch("no more of the long one", () -> longer.way(3));
    }

    private static void refusedBookings() {
        EbbIsland x = two();
        none(x, "party", p -> x.book(p, 0, 0), NO_PARTIES);
        none(x, "day", d -> x.book(0, d, 0), NO_DAYS);
        none(x, "tick", t -> x.book(0, 0, t), NO_TICKS);
        due("it can't be so", x.book(0, 40, 94), NONE);
        due("refused", x.count(14), 1);
        due("none is booked", x.count(10), 0);
        due("it can be so", x.book(0, 40, 93), 1);
        due("not refused", x.count(14), 1);
        none(x, "ahead of what can't be so", d -> x.book(0, d, 0), NO_DAYS);
    }

    private static void undone() {
        EbbIsland x = two();
        due("none", x.undo(), NONE);
        due("still none", x.undo(), NONE);
        due("none below 0", x.count(10), 0);
        x.book(0, 0, 0);
        x.book(1, 0, 0);
        due("one is left", x.undo(), 1);
        due("none is left", x.undo(), 0);
        due("there is none", x.undo(), NONE);
    }

    private static void placesInTime() {
        EbbIsland x = two();
        x.book(0, 3, 93);
        due("it hasn't begun", x.at(0, 92), NONE);
        due("it begins", x.at(0, 93), 0);
        due("it is under way", x.at(0, 94), 1);
        due("it arrives", x.at(0, 95), 2);
        x.undo();
        x.book(0, 3, 0);
        due("it begins in tick 0", x.at(0, 0), 0);
        due("it arrives in tick 2", x.at(0, 2), 2);
        due("it has arrived", x.at(0, 3), NONE);
        due("long ago", x.at(0, 95), NONE);
        none(x, "tick", t -> x.at(0, t), NO_TICKS);
        none(x, "i", i -> x.at(i, 0), -1, 1, 12, LEAST, MOST);
    }

    private static void bothAreOne() {
        EbbIsland x = two();
        noSuch("none is booked", () -> x.met(0, 0));
        x.book(0, 0, 0);
        illegal("both are one", () -> x.met(0, 0));
        none(x, "other", o -> x.met(0, o), -1, 1, 12, LEAST, MOST);
        none(x, "i", i -> x.met(i, 0), -1, 1, 12, LEAST, MOST);
        none(x, "both are one that isn't", i -> x.met(i, i), -1, 1, 12, LEAST, MOST);
        x.book(1, 1, 0);
        due("they haven't", x.met(0, 1), NONE);
        illegal("both are the other", () -> x.met(1, 1));
    }

    private static void keptBurials() {
        EbbIsland x = of("");
        due("without parties", x.burials(), 0);
        noSuch("there is no party", () -> x.buried(0));
        EbbIsland y = two();
        due("one", y.burials(), 1);
        y.book(0, 0, 0);
        tell(y, "x");
        due("they stay", y.buried(0) * 10 + y.buried(1), 0);
        due("told anew", tell(y, "sands 3 1;water (day<3)*9;wait 4;walk 1 1 0 0;walk 1 1 0 0;"), 0);
        noSuch("they are gone", () -> y.buried(0));
        due("one again", y.burials(), 1);
        due("by the new island alone", y.buried(0) * 10 + y.buried(1), 33);
        EbbIsland z = of("sands 3 1;water 9;walk 1 1 0 0;");
        due("it can't be", z.burials(), NONE);
        noSuch("none are kept", () -> z.buried(0));
        due("nothing is refused", z.count(13) + z.count(14) + z.count(15), 0);
    }

    private static void fullSank() {
        EbbIsland x = of(DRY);
        none(x, "cell", c -> x.sink(c, 0, true), NO_CELLS);
        none(x, "day", d -> x.sink(0, d, true), NO_DAYS);
        for (int i = 1; i <= 12; i++) {
            due("the " + i + "th", x.sink(2, 40, false), i);
        }
        due("a 13th", x.sink(2, 40, false), NONE);
        due("refused", x.count(15), 1);
        none(x, "ahead of being full", c -> x.sink(c, 0, true), NO_CELLS);
        none(x, "ahead of being full", d -> x.sink(0, d, true), NO_DAYS);
        due("refused but once", x.count(15), 1);
        due("there are", x.count(11), 12);
    }

    private static void forgotten() {
        EbbIsland x = of(DRY + "quick 0 0;");
        due("none", x.forget(), NONE);
        x.sink(0, 0, true);
        x.sink(0, 0, false);
        due("none fits", x.motions(0), 0);
        due("one is left", x.forget(), 1);
        due("the first one", x.motions(0), 25);
        due("none is left", x.forget(), 0);
        due("there is none", x.forget(), NONE);
        due("none below 0", x.count(11), 0);
        due("none is refused", x.count(15), 0);
    }

    private static void soManyLater() {
        EbbIsland x = two();
        starts(x, (p, d, t) -> x.costs(p, d, t, 0));
        for (int later : new int[] {-1, 96, LEAST, MOST}) {
            illegal("later " + later, () -> x.costs(0, 0, 0, later));
            noSuch("behind the party", () -> x.costs(2, 0, 0, later));
            noSuch("behind the day", () -> x.costs(0, 41, 0, later));
            noSuch("behind the tick", () -> x.costs(0, 0, 96, later));
            noSuch("behind a tick below 0", () -> x.costs(0, 0, -1, later));
        }
        due("the last tick", x.costs(0, 0, 0, 95), NONE);
        due("the last tick from itself", x.costs(0, 0, 95, 0), NONE);
        illegal("behind it", () -> x.costs(0, 0, 95, 1));
    }

    private static void soManyDays() {
        EbbIsland x = two();
        none(x, "party", p -> x.fogs(p, 0, 0, 0), NO_PARTIES);
        none(x, "tick", t -> x.fogs(0, t, 0, 0), NO_TICKS);
        for (int n : new int[] {-1, 41, LEAST, MOST}) {
            illegal("n " + n, () -> x.fogs(0, 0, 0, n));
            noSuch("behind the party", () -> x.fogs(2, 0, 0, n));
            noSuch("behind the tick", () -> x.fogs(0, 96, 0, n));
        }
        due("0 days", x.fogs(1, 95, 0, 0), 0);
        due("40 days", x.fogs(1, 0, 0, 40), 40);
    }

    private static void inPlaceOfAnother() {
        EbbIsland x = two();
        x.image();
        x.book(0, 0, 0);
        x.sink(0, 0, false);
        x.image();
        x.undo();
        x.forget();
        due("the second one", x.restore(), true);
        due("booked, sank", x.count(10) * 10 + x.count(11), 11);
        x.undo();
        x.image();
        x.book(1, 5, 0);
        due("a third one", x.restore(), true);
        due("none is booked", x.count(10) * 10 + x.count(11), 1);
    }

    private static void restored() {
        EbbIsland x = two();
        due("there is none", x.restore(), false);
        x.book(0, 0, 0);
        due("there is none yet", x.restore(), false);
        due("so it stays booked", x.count(10), 1);
        x.image();
        due("as it is", x.restore(), true);
        x.book(1, 40, 93);
        due("once", x.restore(), true);
        due("one", x.count(10), 1);
        x.undo();
        due("twice", x.restore(), true);
        due("one again", x.booked(0, 3), 2);
        due("an island", tell(x, DRY), 0);
        due("it is gone", x.restore(), false);
        due("nothing came back", x.count(10), 0);
    }
}
