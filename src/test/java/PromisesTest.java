/** One method for each promise of the document: ordinary inputs, the edges that it names, wrong inputs. */
public final class PromisesTest extends Checks {
    private static final String FOUR = "sands 4 2;walk 2 3 0 5;run 3 0 1 2;horse 1 7 0 3;stilts 4 1 1 0;"
            + "quick 1 0;quick 2 1;moves 1 0;quarrel 0 1;ebb 1;wait 3;fog 1 0 2 1;";
    private static final String STRAIT = "sands 3 1;ladder 1 0;walk 1 0 0 0;walk 2 5 0 0;ebb 2;";

    public static void main(String[] args) {
        says("Promise 1: A new object", PromisesTest::newObject);
        says("Promise 2: feed", PromisesTest::feed);
        says("Promise 3: island", PromisesTest::island);
        says("Promise 4: fault", PromisesTest::fault);
        says("Promise 5: count", PromisesTest::count);
        says("Promise 6: cell", PromisesTest::cell);
        says("Promise 7: quick", PromisesTest::quick);
        says("Promise 8: water", PromisesTest::water);
        says("Promise 9: party", PromisesTest::party);
        says("Promise 10: may", PromisesTest::may);
        says("Promise 11: cross", PromisesTest::cross);
        says("Promise 12: way", PromisesTest::way);
        says("Promise 13: starts", PromisesTest::starts);
        says("Promise 14: book", PromisesTest::book);
        says("Promise 15: undo", PromisesTest::undo);
        says("Promise 16: booked", PromisesTest::booked);
        says("Promise 17: at", PromisesTest::at);
        says("Promise 18: met", PromisesTest::met);
        says("Promise 19: crowded", PromisesTest::crowded);
        says("Promise 20: leave", PromisesTest::leave);
        says("Promise 21: burials", PromisesTest::burials);
        says("Promise 22: buried", PromisesTest::buried);
        says("Promise 23: queue", PromisesTest::queue);
        says("Promise 24: heir", PromisesTest::heir);
        says("Promise 25: sink", PromisesTest::sink);
        says("Promise 26: forget", PromisesTest::forget);
        says("Promise 27: motions", PromisesTest::motions);
        says("Promise 28: sound", PromisesTest::sound);
        says("Promise 29: late", PromisesTest::late);
        says("Promise 30: costs", PromisesTest::costs);
        says("Promise 31: vigil", PromisesTest::vigil);
        says("Promise 32: rents", PromisesTest::rents);
        says("Promise 33: warning", PromisesTest::warning);
        says("Promise 34: fogs", PromisesTest::fogs);
        says("Promise 35: image", PromisesTest::image);
        says("Promise 36: restore", PromisesTest::restore);
        end("PromisesTest");
    }

    private static void newObject() {
        EbbIsland x = new EbbIsland();
        int[] want = {6, 4, 0, 0, 0, 0, 2, 9, 0, 0, 0, 0, 0, 0, 0, 0};
        for (int i = 0; i < want.length; i++) {
            due("count " + i, x.count(i), want[i]);
        }
        for (int c = 0; c < 24; c++) {
            due("height", x.cell(c, 0), 4);
            due("ground", x.cell(c, 1), c % 6 == 0 ? 3 : c % 6 == 5 ? 4 : 0);
        }
        due("fog", x.count(20) * 1000 + x.count(21) * 100 + x.count(22) * 10 + x.count(23), 1000);
        due("fault", x.fault(), NONE);
        due("image", x.restore(), false);
        noSuch("way", () -> x.way(NONE));
        noSuch("party", () -> x.party(0, 0));
    }

    private static void feed() {
        EbbIsland x = new EbbIsland();
        due("first", x.feed(0x65626220, 0x333b7761, 0x69742034, 0x3b207175, 0x69636b20), 20);
        due("second", x.feed(0x3120323b, LEAST, MOST, NONE, 0), 40);
        due("highest byte first", x.island(24), 0);
        due("ebb", x.count(6), 3);
        due("wait", x.count(7), 4);
        due("quick", x.quick(13, 0), true);
        for (int i = 1; i <= 35; i++) {
            due("feed " + i, x.feed(1, 2, 3, 4, 5), 20 * i);
        }
        due("a 36th", x.feed(1, 2, 3, 4, 5), NONE);
        due("tape", x.count(12), 700);
        due("bytes that are no tokens", x.island(700), 1);
        due("their place", x.fault(), 0);
    }

    private static void island() {
        EbbIsland x = of(FOUR);
        due("width", x.count(0), 4);
        due("parties", x.count(8), 4);
        x.cross(1, 0, 0);
        x.burials();
        x.book(0, 6, 0);
        x.sink(0, 0, false);
        x.image();
        x.feed(1, 1, 1, 1, 1);
        illegal("more than the tape has", () -> x.island(21));
        illegal("below 0", () -> x.island(NONE));
        illegal("far below 0", () -> x.island(LEAST));
        illegal("far above", () -> x.island(MOST));
        due("tape stays", x.count(12), 20);
        due("a fault", x.island(20), 1);
        due("tape is empty", x.count(12), 0);
        due("all stays", x.count(0) * 1000 + x.count(8) * 100 + x.count(10) * 10 + x.count(11), 4411);
        due("way stays", x.way(NONE), 7);
        due("status", x.count(13), 1);
        due("image stays", x.restore(), true);
        due("status as in the image", x.count(13), 0);
        x.book(0, 0, 0);
        due("nothing told", x.island(0), 0);
        due("all anew", x.count(0) * 1000 + x.count(8) * 100 + x.count(10) * 10 + x.count(11), 6000);
        due("status stays", x.count(14), 1);
        due("image is gone", x.restore(), false);
        noSuch("way is gone", () -> x.way(NONE));
        due("parties again", tell(x, "walk 1 0 0 0;"), 0);
        noSuch("burials are gone", () -> x.buried(0));
        due("burials", x.burials(), 1);
        due("a fault leaves them", tell(x, "walk"), 1);
        due("buried", x.buried(0), 0);
        due("told anew", tell(x, "walk 1 0 0 0;"), 0);
        noSuch("burials are gone", () -> x.buried(0));
        signs();
    }

    private static void signs() {
        due("blanks and no blanks", tell(new EbbIsland(), " \n sands3 1 ;\nwind 0009;moves- 2-1;\n"), 0);
        due("of each 12", tell(new EbbIsland(), "sands 9 7;" + marks("rock", 12, 1) + marks("ladder", 12, 3) + marks("quick", 12, 0)), 0);
        due("six parties and quarrels", tell(new EbbIsland(), "walk 1 0 0 0;".repeat(6)
                + "quarrel 0 1;quarrel 0 2;quarrel 0 3;quarrel 0 4;quarrel 0 5;quarrel 1 2;"), 0);
        due("what is on each may be told", tell(new EbbIsland(), "height 1 1 3;rock 1 1;quick 1 1;height 0 0 9;quick 0 0;quick 5 3;"), 0);
        due("five parentheses, six nots", tell(new EbbIsland(), "water (((((not not not not not not 1)))));"), 0);
        due("nots apart", tell(new EbbIsland(), "water not not not not (not not not 1) and not not not not not not 1;"), 0);
    }

    private static void fault() {
        due("before", new EbbIsland().fault(), NONE);
        misplaced();
        tooMuch();
        faulty("water hours;", 3, 6);
        faulty("water 1+not 2;", 3, 8);
        faulty("water 1<not 2;", 3, 8);
        faulty("water or;", 3, 6);
        faulty("water 1 and sands;", 3, 12);
        faulty("water (rock);", 3, 7);
        faulty("quarrel 0 1;", 3, 8);
        faulty("walk 1 1 1 1;quarrel 0 1;", 3, 23);
        faulty("walk 1 1 1 1;quarrel 9999 0;", 3, 21);
        faulty("height 1 2 3;height 1 2 3;", 4, 22);
        faulty("rock 1 2;rock 1 2;", 4, 16);
        faulty("rock 1 2;ladder 1 2;", 4, 18);
        faulty("ladder 1 2;rock 1 2;", 4, 18);
        faulty("quick 1 2;quick 1 2;", 4, 18);
        faulty("rock 0 2;", 4, 7);
        faulty("ladder 5 2;", 4, 9);
        faulty("walk 1 1 1 1;quarrel 0 0;", 4, 23);
        faulty("walk 1 1 1 1;walk 1 1 1 1;quarrel 0 1;quarrel 1 0;", 4, 48);
        for (String line : new String[] {"moves 1 1;", "wind 1;", "ebb 1;", "wait 1;", "fog 1 1 1 1;", "water 1;"}) {
            faulty(line + line, 5, line.length());
        }
        EbbIsland x = new EbbIsland();
        tell(x, "wind");
        due("of the latest", x.fault(), 4);
        illegal("refused", () -> x.island(1));
        due("still", x.fault(), 4);
        tell(x, "wind 1;");
        due("without", x.fault(), NONE);
    }

    private static void misplaced() {
        faulty("x", 1, 0);
        faulty("  ;", 1, 2);
        faulty("wind 1", 1, 6);
        faulty("wind 1  \n", 1, 9);
        faulty("wind x;", 1, 5);
        faulty("Wind 1;", 1, 0);
        faulty("wind\t1;", 1, 4);
        faulty("wind \u00e9;", 1, 5);
        faulty("winds 1;", 1, 0);
        faulty("wind 1;;", 1, 7);
        faulty("wind 1;sands 4 4;", 1, 7);
        faulty("sands 4 4;sands 4 4;", 1, 10);
        faulty("12345 wind 1;", 1, 0);
        faulty("wind 1 12345;", 1, 7);
        faulty("moves --1 0;", 1, 7);
        faulty("moves + 1 0;", 1, 6);
        faulty("wind -1;", 1, 5);
        faulty("water ;", 1, 6);
        faulty("water", 1, 5);
        faulty("water -1;", 1, 6);
        faulty("water 1 2;", 1, 8);
        faulty("water 1 hour;", 1, 8);
        faulty("water 1 not 2;", 1, 8);
        faulty("water 1<2<3;", 1, 9);
        faulty("water not 1=2=3;", 1, 13);
        faulty("water 1<(2<3)<4;", 1, 13);
        faulty("water (1;", 1, 8);
        faulty("water 1);", 1, 7);
        faulty("water ();", 1, 7);
        faulty("water ((((((;", 1, 12);
        faulty("water (((((( );", 1, 13);
    }

    private static void tooMuch() {
        faulty("sands 2 1;", 2, 6);
        faulty("sands 10 1;", 2, 6);
        faulty("sands 3 0;", 2, 8);
        faulty("sands 3 8;", 2, 8);
        faulty("wind 00001;", 2, 5);
        faulty("water 00001;", 2, 6);
        faulty("wind 10;", 2, 5);
        faulty("ebb 0;", 2, 4);
        faulty("ebb 7;", 2, 4);
        faulty("wait 21;", 2, 5);
        faulty("moves -3 0;", 2, 7);
        faulty("moves 0 - 3;", 2, 10);
        faulty("height 6 0 0;", 2, 7);
        faulty("height 0 4 0;", 2, 9);
        faulty("height 0 3 10;", 2, 11);
        faulty("walk 0 0 0 0;", 2, 5);
        faulty("run 5 0 0 0;", 2, 4);
        faulty("horse 1 10 0 0;", 2, 8);
        faulty("stilts 1 0 4 0;", 2, 11);
        faulty("walk 1 0 0 21;", 2, 11);
        faulty("fog 0 0 0 0;", 2, 10);
        faulty("fog 0 10 0 0;", 2, 6);
        faulty("quarrel 10000 0;", 2, 8);
        faulty("sands 9 7;" + marks("rock", 12, 1) + "rock 1 1;", 2, 118);
        faulty("sands 9 7;" + marks("ladder", 12, 1) + "ladder;", 2, 142);
        faulty("sands 9 7;" + marks("quick", 12, 1) + "quick 9 9;", 2, 130);
        faulty("walk 1 1 1 1;".repeat(6) + "run", 2, 78);
        faulty("walk 1 1 1 1;".repeat(6) + "quarrel 0 1;quarrel 0 2;quarrel 0 3;quarrel 0 4;quarrel 0 5;quarrel 1 2;quarrel", 2, 150);
        faulty("water ((((((1))))));", 2, 12);
        faulty("water ((((((or", 2, 12);
        faulty("water ((((( ( (", 2, 14);
        faulty("water 1+((((((hour", 2, 14);
        faulty("water not not not not not not not 1;", 2, 30);
    }

    private static void count() {
        EbbIsland x = of(FOUR);
        int[] want = {4, 2, 2, 1, 0, 0, 1, 3, 4, 1, 0, 0, 0, 0, 0, 0};
        for (int i = 0; i < want.length; i++) {
            due("count " + i, x.count(i), want[i]);
        }
        due("fog", x.count(20) * 1000 + x.count(21) * 100 + x.count(22) * 10 + x.count(23), 1021);
        due("moves", tell(x, "moves -2 -1;wind 7;ebb 6;wait 0;"), 0);
        due("along x", x.count(3), -2);
        due("along y", x.count(4), -1);
        due("wind", x.count(5), 7);
        due("ebb", x.count(6), 6);
        due("wait", x.count(7), 0);
        x.feed(0, 0, 0, 0, 0);
        due("tape", x.count(12), 20);
        for (int what : new int[] {NONE, 16, 17, 18, 19, 24, LEAST, MOST}) {
            noSuch("count " + what, () -> x.count(what));
        }
    }

    private static void cell() {
        EbbIsland x = of("sands 5 3;height 1 2 7;height 0 0 0;height 4 1 9;rock 2 1;ladder 3 2;quick 1 1;");
        due("height", x.cell(11, 0), 7);
        due("lowest", x.cell(0, 0), 0);
        due("highest", x.cell(9, 0), 9);
        due("without", x.cell(7, 0), 4);
        due("sand", x.cell(6, 1), 0);
        due("rock", x.cell(7, 1), 1);
        due("ladder", x.cell(13, 1), 2);
        due("shore", x.cell(10, 1), 3);
        due("island", x.cell(14, 1), 4);
        noSuch("cell 15", () -> x.cell(15, 0));
        noSuch("cell -1", () -> x.cell(-1, 0));
        noSuch("what 2", () -> x.cell(0, 2));
        noSuch("what -1", () -> x.cell(0, -1));
        noSuch("far", () -> x.cell(LEAST, 0));
    }

    private static void quick() {
        EbbIsland x = of("sands 5 3;quick 1 1;quick 0 0;moves -2 1;");
        due("told", x.quick(6, 0), true);
        due("the shore", x.quick(0, 0), true);
        due("not told", x.quick(7, 0), false);
        due("round about", x.quick(14, 1), true);
        due("round about, too", x.quick(8, 1), true);
        due("gone", x.quick(6, 1), false);
        due("round by fifteen days", x.quick(6, 15), true);
        due("day 40", x.quick(11, 40), true);
        noSuch("day 41", () -> x.quick(0, 41) ? 1 : 0);
        noSuch("day -1", () -> x.quick(0, -1) ? 1 : 0);
        noSuch("cell 15", () -> x.quick(15, 0) ? 1 : 0);
        noSuch("cell -1", () -> x.quick(-1, 0) ? 1 : 0);
    }

    private static void water() {
        EbbIsland x = new EbbIsland();
        int[] hours = {0, 1, 2, 3, 4, 5, 6, 5, 4, 3, 2, 1};
        for (int t = 0; t < 96; t++) {
            due("tick " + t, x.water(t % 41, t), hours[t / 4 % 12]);
        }
        worth("hour", 0, 43, 10);
        worth("tick", 0, 17, 17);
        worth("day", 13, 0, 13);
        worth("wind", 0, 0, 6);
        worth("9999", 0, 0, 20);
        worth("3-5", 0, 0, 0);
        worth("20-3-4", 0, 0, 13);
        worth("19-3*4/5", 0, 0, 17);
        worth("100/7/2", 0, 0, 7);
        worth("(0-7)/2+9", 0, 0, 6);
        worth("7/0+2", 0, 0, 2);
        worth("2<3", 0, 0, 1);
        worth("3<3", 0, 0, 0);
        worth("3=3", 0, 0, 1);
        worth("1+2<2+2", 0, 0, 1);
        worth("5 and 7", 0, 0, 1);
        worth("5 or 0", 0, 0, 1);
        worth("0 or 0", 0, 0, 0);
        worth("1 or 1 and 0", 0, 0, 1);
        worth("0 and 1 or 1", 0, 0, 1);
        worth("0 and (1 or 1)", 0, 0, 0);
        worth("not 0", 0, 0, 1);
        worth("not 7", 0, 0, 0);
        worth("not not 7", 0, 0, 1);
        worth("not 1 < 1", 0, 0, 1);
        worth("not 0 and 0", 0, 0, 0);
        worth("3*(1+2)", 0, 0, 9);
        worth("5", 0, 0, 5);
        worth("(5)", 0, 0, 5);
        wrap();
        noSuch("day 41", () -> x.water(41, 0));
        noSuch("day -1", () -> x.water(-1, 0));
        noSuch("tick 96", () -> x.water(0, 96));
        noSuch("tick -1", () -> x.water(0, -1));
    }

    private static void wrap() {
        // 65536 * 65536 wraps to 0; 32768 * 65536 is the least int, and stays it when it is divided by -1.
        worth("256*256*256*256+4", 0, 0, 4);
        worth("128*256*256*256<0", 0, 0, 1);
        worth("(128*256*256*256)/(0-1)<0", 0, 0, 1);
        worth("128*256*256*256-1=0-128*256*256*256-1", 0, 0, 1);
    }

    private static void party() {
        EbbIsland x = of(FOUR + "quarrel 2 0;");
        int[][] want = {{0, 2, 3, 0, 5, 6}, {3, 3, 0, 1, 2, 1}, {1, 1, 7, 0, 3, 1}, {2, 4, 1, 1, 0, 0}};
        for (int p = 0; p < 4; p++) {
            for (int what = 0; what < 6; what++) {
                due("party " + p + " what " + what, x.party(p, what), want[p][what]);
            }
        }
        noSuch("party 4", () -> x.party(4, 0));
        noSuch("party -1", () -> x.party(-1, 0));
        noSuch("what 6", () -> x.party(0, 6));
        noSuch("what -1", () -> x.party(0, -1));
    }

    private static void may() {
        EbbIsland x = of("sands 6 2;water tick;walk 1 1 0 0;horse 1 6 0 0;stilts 1 1 0 0;run 1 0 0 0;horse 1 9 0 0;"
                + "height 1 0 3;height 2 0 9;rock 3 0;ladder 4 0;quick 1 1;quick 3 0;quick 0 0;");
        due("below", x.may(0, 1, 0, 2), true);
        due("not below", x.may(0, 1, 0, 3), false);
        due("stilts below", x.may(2, 1, 0, 4), true);
        due("stilts not below", x.may(2, 1, 0, 5), false);
        due("a horse's load", x.may(1, 1, 0, 0), false);
        due("a horse's load on 4", x.may(1, 8, 0, 0), true);
        due("a horse's load of 9 on 9", x.may(4, 2, 0, 0), true);
        due("a horse's load of 9 on 4", x.may(4, 8, 0, 0), false);
        due("the shore", x.may(1, 0, 0, 95), true);
        due("the island", x.may(1, 5, 0, 95), true);
        due("a rock with quicksand", x.may(1, 3, 0, 95), true);
        due("a ladder", x.may(1, 4, 0, 95), true);
        due("quicksand", x.may(0, 7, 0, 0), false);
        due("quicksand without a load", x.may(3, 7, 0, 0), true);
        due("no load helps against water", x.may(3, 7, 0, 4), false);
        noSuch("party", () -> x.may(5, 0, 0, 0) ? 1 : 0);
        noSuch("cell", () -> x.may(0, 12, 0, 0) ? 1 : 0);
        noSuch("day", () -> x.may(0, 0, 41, 0) ? 1 : 0);
        noSuch("tick", () -> x.may(0, 0, 0, 96) ? 1 : 0);
    }

    private static void cross() {
        EbbIsland x = of(FOUR);
        due("straight", x.cross(0, 2, 0), 6);
        due("quicksand ahead and behind", x.cross(0, 0, 0), NONE);
        due("what is kept stays", x.way(NONE), 7);
        due("runners take half", x.cross(1, 0, 0), 6);
        due("round about", x.cross(0, 1, 0), 8);
        due("a horse with too much", x.cross(2, 2, 0), NONE);
        due("stilts wait ashore", x.cross(3, 2, 20), 39);
        EbbIsland y = of("sands 3 1;walk 4 1 0 0;run 4 1 0 0;run 1 1 0 0;water 0;");
        due("walk by 4", y.cross(0, 0, 87), 95);
        due("too late", y.cross(0, 0, 88), NONE);
        due("run by 2", y.cross(1, 0, 91), 95);
        due("run by 1, cut up", y.cross(2, 0, 93), 95);
        due("no tick is left", y.cross(2, 0, 95), NONE);
        EbbIsland z = of("sands 4 1;walk 3 1 0 0;rock 1 0;water (tick<10)*9;");
        due("waits on a rock", z.cross(0, 0, 0), 15);
        due("in all ticks of a step", z.cross(0, 0, 4), 15);
        noSuch("party", () -> x.cross(4, 0, 0));
        noSuch("day", () -> x.cross(0, 41, 0));
        noSuch("tick", () -> x.cross(0, 0, 96));
        noSuch("tick -1", () -> x.cross(0, 0, -1));
    }

    private static void wayIs(EbbIsland x, int... cells) {
        due("ticks of the way", x.way(NONE), cells.length);
        for (int i = 0; i < cells.length; i++) {
            due("way " + i, x.way(i), cells[i]);
        }
        noSuch("behind it", () -> x.way(cells.length));
    }

    private static void way() {
        EbbIsland x = of(FOUR);
        noSuch("none is kept", () -> x.way(0));
        noSuch("none is kept", () -> x.way(NONE));
        x.cross(0, 2, 0);
        wayIs(x, 0, 1, 1, 2, 2, 3, 3);
        x.cross(0, 1, 0);
        wayIs(x, 0, 1, 1, 5, 5, 6, 6, 7, 7);
        x.book(0, 6, 5);
        due("book keeps no way", x.way(NONE), 9);
        noSuch("-2", () -> x.way(-2));
        noSuch("far", () -> x.way(MOST));
        EbbIsland z = of("sands 4 1;walk 3 1 0 0;rock 1 0;water (tick<10)*9;");
        z.cross(0, 0, 2);
        // Of all ways that end in tick 15 the first waits ashore as long as it can.
        wayIs(z, 0, 0, 0, 0, 0, 1, 1, 1, 2, 2, 2, 3, 3, 3);
        EbbIsland y = of("sands 3 2;walk 1 1 1 0;water 0;rock 1 0;");
        y.cross(0, 0, 90);
        wayIs(y, 3, 4, 5);
        EbbIsland v = of("sands 3 3;walk 1 1 1 0;water (tick<3)*9;");
        v.cross(0, 0, 0);
        // North along the shore and back comes as soon as waiting, and is first.
        wayIs(v, 3, 0, 0, 1, 2);
    }

    private static void starts() {
        EbbIsland x = of(FOUR);
        due("how many", x.starts(0, 2, 0), 90);
        due("first", x.starts(0, 2, 1), 0);
        due("last", x.starts(0, 2, 2), 89);
        due("soonest", x.starts(0, 2, 3), 6);
        due("none", x.starts(0, 0, 0), 0);
        due("no first", x.starts(0, 0, 1), NONE);
        due("no last", x.starts(0, 0, 2), NONE);
        due("no soonest", x.starts(0, 0, 3), NONE);
        EbbIsland y = of("sands 3 1;walk 1 1 0 0;water (tick<50 or 60<tick)*9;");
        due("last before the flood", y.starts(0, 0, 2), 59);
        due("how many before it", y.starts(0, 0, 0), 60);
        due("soonest behind it", y.starts(0, 0, 3), 51);
        noSuch("what 4", () -> x.starts(0, 0, 4));
        noSuch("what -1", () -> x.starts(0, 0, -1));
        noSuch("party", () -> x.starts(-1, 0, 0));
        noSuch("day", () -> x.starts(0, -1, 0));
    }

    private static void book() {
        EbbIsland x = of("sands 3 1;walk 1 0 0 5;walk 1 0 0 0;walk 1 0 0 0;walk 1 0 0 0;horse 1 9 0 0;quarrel 1 2;");
        due("ahead of death", x.book(0, 4, 0), NONE);
        due("on that day", x.book(0, 5, 0), 1);
        due("booked already", x.book(0, 6, 0), NONE);
        due("another", x.book(1, 5, 3), 2);
        due("as many as ebb says", x.book(3, 5, 0), NONE);
        due("another day", x.book(2, 6, 0), 3);
        due("can't", x.book(4, 7, 0), NONE);
        due("status", x.count(14), 4);
        due("undone", x.undo() * 10 + x.undo(), 21);
        due("a quarrel", x.book(2, 5, 0), 2);
        due("with one who is booked", x.book(1, 5, 0), NONE);
        due("on another day", x.book(1, 4, 0), 3);
        due("status", x.count(14), 5);
        noSuch("party", () -> x.book(5, 0, 0));
        noSuch("day", () -> x.book(0, 41, 0));
        noSuch("tick", () -> x.book(0, 0, 96));
        due("status stays", x.count(14), 5);
        due("booked", x.count(10), 3);
    }

    private static void undo() {
        EbbIsland x = of(STRAIT);
        due("none", x.undo(), NONE);
        x.book(0, 0, 0);
        x.book(1, 0, 0);
        due("the last one", x.undo(), 1);
        due("first is left", x.booked(0, 0), 0);
        due("the first one", x.undo(), 0);
        due("none again", x.undo(), NONE);
        due("status is none of it", x.count(14), 0);
        due("again", x.book(1, 3, 0), 1);
        due("as booked now", x.booked(0, 1), 3);
    }

    private static void booked() {
        EbbIsland x = of(STRAIT);
        noSuch("none", () -> x.booked(0, 0));
        x.book(1, 7, 20);
        x.book(0, 7, 30);
        int[][] want = {{1, 7, 20, 24}, {0, 7, 30, 32}};
        for (int i = 0; i < 2; i++) {
            for (int what = 0; what < 4; what++) {
                due("booked " + i + " " + what, x.booked(i, what), want[i][what]);
            }
        }
        noSuch("what 4", () -> x.booked(0, 4));
        noSuch("what -1", () -> x.booked(0, -1));
        noSuch("i 2", () -> x.booked(2, 0));
        noSuch("i -1", () -> x.booked(-1, 0));
    }

    private static void at() {
        EbbIsland x = of(STRAIT);
        x.book(1, 7, 20);
        int[] want = {NONE, 0, 1, 1, 2, 2, NONE};
        for (int k = 0; k < want.length; k++) {
            due("tick " + (19 + k), x.at(0, 19 + k), want[k]);
        }
        due("tick 0", x.at(0, 0), NONE);
        due("tick 95", x.at(0, 95), NONE);
        noSuch("tick 96", () -> x.at(0, 96));
        noSuch("tick -1", () -> x.at(0, -1));
        noSuch("i 1", () -> x.at(1, 0));
        noSuch("i -1", () -> x.at(-1, 0));
    }

    private static void met() {
        EbbIsland x = of("sands 4 1;walk 1 0 0 0;walk 3 0 0 0;walk 1 0 0 0;walk 1 0 0 0;ebb 6;water 0;");
        x.book(1, 0, 0);
        x.book(0, 0, 2);
        x.book(2, 1, 0);
        x.book(3, 0, 0);
        due("overtaken", x.met(0, 1), 3);
        due("either way round", x.met(1, 0), 3);
        due("another day", x.met(0, 2), NONE);
        due("on one cell from the first step on", x.met(0, 3), 1);
        due("ashore and ahead of it", x.met(1, 3), NONE);
        noSuch("i 4", () -> x.met(4, 0));
        noSuch("other 4", () -> x.met(0, 4));
        noSuch("ahead of both being one", () -> x.met(4, 4));
        noSuch("-1", () -> x.met(-1, -1));
        illegal("both are one", () -> x.met(2, 2));
    }

    private static void crowded() {
        EbbIsland x = of(STRAIT);
        x.book(0, 4, 0);
        due("alone", x.crowded(4), NONE);
        x.book(1, 4, 0);
        due("two on a ladder", x.crowded(4), 1);
        due("another day", x.crowded(3), NONE);
        x.undo();
        x.book(1, 4, 1);
        due("one behind the other", x.crowded(4), NONE);
        EbbIsland y = of("sands 3 1;rock 1 0;walk 1 0 0 0;walk 1 0 0 0;");
        y.book(0, 0, 0);
        y.book(1, 0, 0);
        due("met on a rock", y.met(0, 1), 1);
        due("a rock is no ladder", y.crowded(0), NONE);
        noSuch("day 41", () -> x.crowded(41));
        noSuch("day -1", () -> x.crowded(-1));
    }

    private static void leave() {
        EbbIsland x = of("sands 3 2;ladder 1 0;ladder 1 1;walk 1 0 0 0;walk 1 0 0 0;walk 1 0 1 0;walk 1 0 1 0;walk 1 0 1 0;ebb 6;");
        due("nobody", x.leave(0), 0);
        x.book(4, 0, 0);
        x.book(3, 0, 0);
        due("the least bits", x.leave(0), 8);
        x.book(1, 0, 0);
        x.book(0, 0, 0);
        due("one of each ladder", x.leave(0), 9);
        x.book(2, 0, 0);
        due("two of three", x.leave(0), 13);
        due("another day", x.leave(1), 0);
        EbbIsland y = of("sands 5 1;ladder 1 0;ladder 3 0;walk 4 0 0 0;walk 2 0 0 0;walk 2 0 0 0;ebb 3;");
        // 0 meets 1 on the first ladder and 2 on the second one: to leave it alone is fewest.
        y.book(0, 0, 0);
        y.book(1, 0, 2);
        y.book(2, 0, 8);
        due("no couple but with it", y.met(1, 2), NONE);
        due("the one of both couples", y.leave(0), 1);
        noSuch("day 41", () -> x.leave(41));
        noSuch("day -1", () -> x.leave(-1));
    }

    private static void burials() {
        due("without parties", new EbbIsland().burials(), 0);
        String three = "sands 3 1;walk 1 1 0 3;walk 1 1 0 5;walk 1 1 0 4;";
        due("all on one day", of(three + "ebb 3;").burials(), 1);
        due("two by ebb", of(three + "ebb 2;").burials(), 2);
        due("three by ebb", of(three + "ebb 1;").burials(), 3);
        due("none waits", of(three + "ebb 3;wait 0;").burials(), 3);
        due("a quarrel", of(three + "ebb 3;quarrel 0 1;").burials(), 2);
        due("all quarrel", of(three + "ebb 3;quarrel 0 1;quarrel 1 2;quarrel 2 0;").burials(), 3);
        due("too long", of("sands 3 1;walk 1 1 0 3;walk 1 1 0 3;ebb 1;wait 0;").burials(), NONE);
        due("one can't cross", of(FOUR).burials(), NONE);
        due("no day with water", of("sands 3 1;walk 1 1 0 3;water (day<13)*9;").burials(), NONE);
        due("the last day that it may wait", of("sands 3 1;walk 1 1 0 3;water (day<12)*9;").burials(), 1);
        due("up to day 40", of("sands 3 1;walk 1 1 0 20;wait 20;water (day<40)*9;").burials(), 1);
        EbbIsland x = of(three);
        x.book(0, 3, 0);
        x.book(1, 5, 0);
        due("what is booked isn't asked", x.burials(), 2);
    }

    private static void daysAre(String text, int... days) {
        EbbIsland x = of(text);
        x.burials();
        for (int p = 0; p < days.length; p++) {
            due("buried " + p + " of " + text, x.buried(p), days[p]);
        }
    }

    private static void buried() {
        daysAre("sands 3 1;walk 1 1 0 3;walk 1 1 0 5;walk 1 1 0 4;ebb 3;", 5, 5, 5);
        daysAre("sands 3 1;walk 1 1 0 3;walk 1 1 0 5;walk 1 1 0 4;ebb 2;", 3, 5, 5);
        daysAre("sands 3 1;walk 1 1 0 3;walk 1 1 0 3;walk 1 1 0 3;ebb 2;", 3, 3, 4);
        daysAre("sands 3 1;walk 1 1 0 3;walk 1 1 0 3;walk 1 1 0 3;ebb 3;quarrel 0 1;", 3, 4, 3);
        daysAre("sands 3 1;walk 1 1 0 3;walk 1 1 0 3;ebb 1;wait 1;", 3, 4);
        EbbIsland x = of("sands 3 1;walk 1 1 0 3;");
        noSuch("none are kept", () -> x.buried(0));
        x.burials();
        due("kept", x.buried(0), 3);
        noSuch("party 1", () -> x.buried(1));
        noSuch("party -1", () -> x.buried(-1));
        EbbIsland y = of("sands 3 1;horse 1 9 0 3;");
        due("none can be", y.burials(), NONE);
        noSuch("none are kept then", () -> y.buried(0));
    }

    private static void queueIs(String text, int... days) {
        EbbIsland x = of(text);
        for (int p = 0; p < days.length; p++) {
            due("queue " + p + " of " + text, x.queue(p), days[p]);
        }
    }

    private static void queue() {
        queueIs(FOUR, 5, 2, NONE, 1);
        queueIs("sands 3 1;walk 1 1 0 3;walk 1 1 0 2;walk 1 1 0 3;ebb 1;", 3, 2, 4);
        queueIs("sands 3 1;walk 1 1 0 2;walk 1 1 0 0;walk 1 1 0 1;ebb 1;water (day<5)*9;", 7, 5, 6);
        queueIs("sands 3 1;walk 1 1 0 1;walk 1 1 0 1;walk 1 1 0 1;ebb 3;quarrel 0 1;quarrel 1 2;", 1, 2, 1);
        queueIs("sands 3 1;walk 1 1 0 20;walk 1 1 0 20;ebb 1;water (day<40)*9;", 40, NONE);
        queueIs("sands 3 1;walk 1 1 0 0;horse 1 9 0 0;walk 1 1 0 0;ebb 2;", 0, NONE, 0);
        EbbIsland x = of(FOUR);
        noSuch("party 4", () -> x.queue(4));
        noSuch("party -1", () -> x.queue(-1));
    }

    private static void heirsAre(String text, int... ranks) {
        EbbIsland x = of(text);
        for (int p = 0; p < ranks.length; p++) {
            due("heir " + p + " of " + text, x.heir(p), ranks[p]);
        }
    }

    private static void heir() {
        heirsAre(FOUR, 2, 1, NONE, 0);
        heirsAre("sands 3 1;walk 2 1 0 3;walk 1 1 0 3;walk 2 1 0 3;walk 4 1 0 2;", 2, 1, 3, 0);
        heirsAre("sands 3 1;walk 4 1 0 1;walk 1 1 0 6;walk 4 1 0 7;water (day<6)*9;", 1, 0, 2);
        heirsAre("sands 3 1;walk 1 1 0 20;stilts 1 1 0 20;water 4+(day<40);", NONE, 0);
        EbbIsland x = of(FOUR);
        noSuch("party 4", () -> x.heir(4));
        noSuch("party -1", () -> x.heir(-1));
    }

    private static void sink() {
        EbbIsland x = new EbbIsland();
        for (int i = 1; i <= 12; i++) {
            due("sink " + i, x.sink(i, 40, false), i);
        }
        due("a 13th", x.sink(0, 0, false), NONE);
        due("status", x.count(15), 1);
        due("there are", x.count(11), 12);
        noSuch("cell, ahead", () -> x.sink(24, 0, true));
        noSuch("cell -1", () -> x.sink(-1, 0, true));
        noSuch("day, ahead", () -> x.sink(0, 41, true));
        noSuch("day -1", () -> x.sink(0, -1, true));
        due("status stays", x.count(15), 1);
    }

    private static void forget() {
        EbbIsland x = of("sands 5 5;quick 1 1;");
        due("none", x.forget(), NONE);
        x.sink(6, 0, true);
        x.sink(6, 1, true);
        due("one motion", x.motions(0), 1);
        due("the last is forgotten", x.forget(), 1);
        due("all motions", x.motions(0), 25);
        x.sink(6, 1, false);
        due("stood there now", x.motions(0), 24);
        due("left", x.forget() * 10 + x.forget(), 10);
        due("none again", x.forget(), NONE);
    }

    private static void motions() {
        EbbIsland x = of("sands 5 5;quick 2 2;moves 1 1;");
        due("all", x.motions(0), 25);
        due("least", x.motions(1), 0);
        x.sink(0, 1, false);
        due("not the least", x.motions(0), 24);
        due("next", x.motions(1), 1);
        x.sink(2 * 5 + 4, 1, true);
        due("one", x.motions(0), 1);
        due("two along x", x.motions(1), 5 * 4 + 2);
        x.sink(12, 0, false);
        due("as told on day 0", x.motions(0), 0);
        due("none", x.motions(1), NONE);
        EbbIsland y = of("sands 3 1;quick 0 0;");
        y.sink(1, 1, true);
        due("round about", y.motions(0), 10);
        due("-2 along x, -2 along y", y.motions(1), 0);
        noSuch("what 2", () -> x.motions(2));
        noSuch("what -1", () -> x.motions(-1));
    }

    private static void sound() {
        EbbIsland x = of("sands 4 1;quick 1 0;");
        due("sound on day 0", x.sound(0, false), 13);
        due("doubtful on day 0", x.sound(0, true), 0);
        due("sound on day 1", x.sound(1, false), 0);
        due("doubtful on day 1", x.sound(1, true), 15);
        x.sink(3, 1, false);
        due("no two along x", x.sound(1, false), 8);
        due("doubtful then", x.sound(1, true), 7);
        x.sink(2, 1, true);
        due("one along x", x.sound(1, false), 11);
        due("none doubtful", x.sound(1, true), 0);
        due("on day 3", x.sound(3, false), 14);
        x.sink(2, 1, false);
        due("none fits", x.sound(1, false), 0);
        due("none fits, doubtful", x.sound(1, true), 0);
        due("63 cells", of("sands 9 7;").sound(40, false), MOST * 4294967296L + 4294967295L);
        noSuch("day 41", () -> x.sound(41, true));
        noSuch("day -1", () -> x.sound(-1, false));
    }

    private static void late() {
        EbbIsland x = of(FOUR);
        due("nine", x.late(0, 2, 80), 9);
        due("none later", x.late(0, 2, 89), 0);
        due("too late", x.late(0, 2, 90), NONE);
        due("all", x.late(0, 2, 0), 89);
        due("can't", x.late(0, 0, 0), NONE);
        noSuch("party", () -> x.late(4, 0, 0));
        noSuch("day", () -> x.late(0, 41, 0));
        noSuch("tick", () -> x.late(0, 0, 96));
    }

    private static void costs() {
        EbbIsland x = of(FOUR);
        due("nothing", x.costs(0, 2, 0, 0), 0);
        due("one", x.costs(0, 2, 0, 1), 1);
        due("the flood between", x.costs(0, 2, 0, 12), 35);
        due("the first can't", x.costs(0, 2, 90, 0), NONE);
        due("the other can't", x.costs(0, 2, 0, 95), NONE);
        due("free", of("sands 3 1;walk 1 1 0 0;water (tick<50)*9;").costs(0, 0, 3, 40), 0);
        illegal("no such tick", () -> x.costs(0, 2, 1, 95));
        illegal("below 0", () -> x.costs(0, 2, 1, -1));
        illegal("far", () -> x.costs(0, 2, 1, MOST));
        illegal("far below", () -> x.costs(0, 2, 1, LEAST));
        noSuch("party, ahead", () -> x.costs(4, 2, 1, -1));
        noSuch("day, ahead", () -> x.costs(0, 41, 1, -1));
        noSuch("tick, ahead", () -> x.costs(0, 2, 96, -1));
    }

    private static void vigilIs(EbbIsland x, int party, int tick, int... want) {
        for (int what = 0; what < 4; what++) {
            due("vigil " + party + " " + tick + " " + what, x.vigil(party, 2, tick, what), want[what]);
        }
    }

    private static void vigil() {
        EbbIsland x = of(FOUR);
        vigilIs(x, 0, 0, 1, 1, 45, 4);
        vigilIs(x, 2, 0, 0, 1, 0, 1);
        EbbIsland y = of("sands 3 1;walk 1 1 0 0;run 3 1 0 0;fog 2 4 6 3;water 0;");
        vigilIs(y, 0, 0, 1, 1, 16, 3);
        // Steps of 2, 3, 4, 5 ticks: runners take half of their own ticks, and those of the fog whole.
        vigilIs(y, 1, 0, 1, 1, 22, 3);
        vigilIs(y, 0, 90, 2, 5, 10, 3);
        vigilIs(y, 0, 93, 2, 15, 2, 1);
        vigilIs(y, 0, 94, 0, 1, 0, 1);
        EbbIsland z = of("sands 3 1;walk 1 1 0 0;fog 0 1 0 0;water 0;");
        vigilIs(z, 0, 92, 0, 1, 0, 1);
        vigilIs(z, 0, 91, 1, 1, 4, 1);
        noSuch("what 4", () -> x.vigil(0, 0, 0, 4));
        noSuch("what -1", () -> x.vigil(0, 0, 0, -1));
        noSuch("party", () -> x.vigil(4, 0, 0, 0));
        noSuch("day", () -> x.vigil(0, 41, 0, 0));
        noSuch("tick", () -> x.vigil(0, 0, 96, 0));
    }

    private static void rentsAre(String text, int many, int first) {
        EbbIsland x = of(text);
        due("rents of " + text, x.rents(0, 0, 0), many);
        due("first of " + text, x.rents(0, 0, 1), first);
    }

    private static void rents() {
        EbbIsland x = of(FOUR);
        due("none rests", x.rents(2, 0, 0), 0);
        due("no first", x.rents(2, 0, 1), NONE);
        rentsAre("", 81, 11);
        // A load that horses can't bear: stilts alone cross, and horses' owner gains nothing by any rent.
        rentsAre("sands 3 1;walk 1 9 0 0;", 9, 19);
        // Both cross: above 1 one undercuts the other, and of like rents horses are taken.
        rentsAre("sands 3 1;walk 1 0 0 0;", 1, 11);
        rentsAre("sands 3 1;rock 1 0;walk 1 9 0 0;water 9;", 1, 11);
        // Its own speed: two steps of 4 ticks are too slow by horse, not on stilts; one of 1 tick is not.
        rentsAre("sands 3 1;run 4 0 0 0;water (2<tick)*4;", 9, 19);
        rentsAre("sands 3 1;run 1 0 0 0;water (2<tick)*4;", 1, 11);
        due("too late for all", of("sands 3 1;walk 4 0 0 0;").rents(0, 95, 0), 81);
        noSuch("what 2", () -> x.rents(0, 0, 2));
        noSuch("what -1", () -> x.rents(0, 0, -1));
        noSuch("day", () -> x.rents(41, 0, 0));
        noSuch("tick", () -> x.rents(0, 96, 0));
    }

    private static void warning() {
        EbbIsland x = of("sands 3 1;water wind;walk 1 1 0 0;stilts 1 1 0 0;horse 1 9 0 0;wind 9;");
        due("walkers", x.warning(0, 0, 0), 4);
        due("stilts", x.warning(1, 0, 0), 6);
        due("a horse with too much", x.warning(2, 0, 0), 0);
        due("its own wind stays", x.cross(0, 0, 0), NONE);
        due("and its water", x.water(0, 0), 9);
        due("too late", x.warning(1, 0, 94), 0);
        EbbIsland y = of("sands 3 1;water 3-wind*(day=1);walk 1 1 0 0;");
        due("none", y.warning(0, 0, 0), NONE);
        due("without a rule", of("walk 1 1 0 0;").warning(0, 0, 0), NONE);
        due("by wind 9", of("sands 3 1;water wind/9*4;walk 1 1 0 0;").warning(0, 0, 0), 9);
        due("on a day", of("sands 3 1;water wind*day;walk 1 1 0 0;").warning(0, 2, 0), 2);
        noSuch("party", () -> x.warning(3, 0, 0));
        noSuch("day", () -> x.warning(0, 41, 0));
        noSuch("tick", () -> x.warning(0, 0, 96));
    }

    private static void fogs() {
        EbbIsland x = of("sands 3 1;walk 1 1 0 0;fog 1 1 1 1;water 0;");
        due("no day", x.fogs(0, 0, 7, 0), 0);
        due("all days", x.fogs(0, 0, 7, 40), 40);
        due("never", x.fogs(0, 94, 7, 40), 0);
        for (int seed : new int[] {0, 1, 7, -1, LEAST, MOST, 123456789}) {
            int calm = 0;
            int seen = seed;
            for (int n = 1; n <= 40; n++) {
                seen = (int) (seen * 1103515245L + 12345L);
                calm += (seen >> 16 & 0x7fff) % 4 == 0 ? 1 : 0;
                due("calm days of " + n + " by seed " + seed, x.fogs(0, 93, seed, n), calm);
            }
        }
        EbbIsland y = of("sands 3 1;walk 1 1 0 0;fog 0 3 0 2;water (day=1)*9;");
        // Seed 0 becomes 12345, whose bits 16 to 30 are 0: the first strength with a weight is 1.
        due("day 0", y.fogs(0, 91, 0, 1), 1);
        due("day 1 has water", y.fogs(0, 0, 0, 2), 1);
        illegal("n 41", () -> x.fogs(0, 0, 7, 41));
        illegal("n -1", () -> x.fogs(0, 0, 7, -1));
        noSuch("party, ahead", () -> x.fogs(1, 0, 7, 41));
        noSuch("tick, ahead", () -> x.fogs(0, 96, 7, 41));
    }

    private static void image() {
        EbbIsland x = of(STRAIT);
        x.image();
        x.book(0, 0, 0);
        x.sink(1, 1, true);
        x.image();
        x.book(1, 0, 0);
        due("restored", x.restore(), true);
        due("as in the latest image", x.count(10) * 10 + x.count(11), 11);
        due("its way, too", x.at(0, 1), 1);
        x.undo();
        x.book(1, 2, 0);
        x.forget();
        due("restored again", x.restore(), true);
        due("the first one", x.booked(0, 0) * 10 + x.booked(0, 1), 0);
        due("where it was", x.at(0, 2), 2);
        due("who sank", x.motions(0), 0);
    }

    private static void restore() {
        EbbIsland x = of(STRAIT);
        due("none", x.restore(), false);
        x.image();
        x.book(0, 0, 0);
        x.book(0, 0, 0);
        for (int i = 0; i < 13; i++) {
            x.sink(0, 0, true);
        }
        tell(x, "?");
        x.cross(1, 0, 5);
        x.burials();
        due("status", x.count(13) * 100 + x.count(14) * 10 + x.count(15), 111);
        due("restored", x.restore(), true);
        due("status as it was", x.count(13) * 100 + x.count(14) * 10 + x.count(15), 0);
        due("booked", x.count(10), 0);
        due("sank", x.count(11), 0);
        due("way stays", x.way(NONE), 5);
        due("burials stay", x.buried(0), 0);
        due("fault stays", x.fault(), 0);
        due("the image stays", x.restore(), true);
    }
}
