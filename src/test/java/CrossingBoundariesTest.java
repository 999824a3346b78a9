/** The boundary cases of the water, crossings, what is booked, burials and all that stands under '==== 2.' to '==== 4.'. */
public final class CrossingBoundariesTest extends Checks {
    private static final String[] KINDS = {"walk", "horse", "stilts", "run"};
    /** A strait of one row: a step to the sand, a step to the island, always dry. */
    private static final String DRY = "sands 3 1;water 0;";

    public static void main(String[] args) {
        waters();
        crossings();
        bookings();
        burials();
        sands();
        chances();
        end("CrossingBoundariesTest");
    }

    private static void waters() {
        says("A DAY (0 to 40) has TICKS 0 to 95, four to an HOUR.", CrossingBoundariesTest::daysAndTicks);
        says("THE WATER in a TICK is what its EXPR gives (kept to 0 to 20)", CrossingBoundariesTest::waterKept);
        says("without one 12 less HOUR MOD 12, if that is above 6 (of HOUR MOD 12), else HOUR MOD 12.",
                CrossingBoundariesTest::waterWithout);
        says("each CELL as many times DAY farther by what it MOVES, round about THE SANDS (MOD W, MOD H).",
                CrossingBoundariesTest::roundAbout);
        says("always on the shore, the island, a ROCK, a LADDER;", CrossingBoundariesTest::always);
        says("if THE WATER is below its HEIGHT (stilts: below HEIGHT and 2)", CrossingBoundariesTest::belowHeight);
        says("it is no QUICKSAND (a LOAD of 0: it may be, too)", CrossingBoundariesTest::noQuicksand);
        says("a horse's LOAD is no more than HEIGHT and 2.", CrossingBoundariesTest::horsesLoad);
    }

    private static void crossings() {
        says("A STEP to a CELL beside (north, east, south, west)", CrossingBoundariesTest::beside);
        says("takes SPEED TICKS (of runners half as many, cut up)", CrossingBoundariesTest::stepTicks);
        says("from the next one on; in all of them it is on that CELL, and must be able to.",
                CrossingBoundariesTest::allTicksOfAStep);
        says("It may wait, too, a TICK where it is, if it may be there in the next one.",
                CrossingBoundariesTest::waiting);
        says("it is in its ROW on the shore in that TICK;", CrossingBoundariesTest::inItsRow);
        says("it comes to any CELL of the island as soon as can be", CrossingBoundariesTest::anyCell);
        says("by the end of the DAY (ARRIVES: the TICK in which the last STEP ends).",
                CrossingBoundariesTest::endOfDay);
        says("of all by which it ARRIVES then the first as a row of CELLS.", CrossingBoundariesTest::firstWay);
        says("It can't, if there is none.", CrossingBoundariesTest::cannot);
    }

    private static void bookings() {
        says("BOOKED are CROSSINGS (at most 12), each by its WAY", CrossingBoundariesTest::bookedByWay);
        says("not if it can't, is BOOKED already", CrossingBoundariesTest::bookedAlready);
        says("the DAY is ahead of that on which he died", CrossingBoundariesTest::aheadOfDeath);
        says("or if on that DAY as many are BOOKED as EBB says", CrossingBoundariesTest::fullDay);
        says("or one with whom it QUARRELS.", CrossingBoundariesTest::bookedQuarrels);
        says("They are UNDONE, the last one first.", CrossingBoundariesTest::lastOneFirst);
        says("in the first TICK in which both are on one CELL (but on the shore, the island)",
                CrossingBoundariesTest::meetings);
        says("TOO MANY are on a LADDER, if two are on one.", CrossingBoundariesTest::twoOnALadder);
    }

    private static void burials() {
        says("of TICKS 0 to 95 those from which a PARTY can cross: how many, the first, the last;",
                CrossingBoundariesTest::startsOfADay);
        says("the soonest that it ARRIVES.", CrossingBoundariesTest::soonest);
        says("each PARTY is given a DAY, on which it can cross (from some TICK)", CrossingBoundariesTest::fromSomeTick);
        says("no sooner than he died, no more than WAIT later", CrossingBoundariesTest::waitLater);
        says("no more on one DAY than EBB, no two that QUARREL", CrossingBoundariesTest::ebbAndQuarrel);
        says("so that there are as few EBBS (DAYS that are used) as can be;", CrossingBoundariesTest::fewEbbs);
        says("of like ones the first as a row of DAYS by PARTIES;", CrossingBoundariesTest::firstRowOfDays);
        says("none, if it can't be. (What is BOOKED isn't asked.)", CrossingBoundariesTest::noBurials);
        says("DAY by DAY from 0 to 40", CrossingBoundariesTest::queueDays);
        says("of PARTIES whose dead died by then and who aren't buried those who can cross on it",
                CrossingBoundariesTest::queuedOnes);
        says("in the order of haste (who died first, of like ones the least)", CrossingBoundariesTest::haste);
        says("as many as EBB says, none who QUARRELS with one ahead of it on that DAY",
                CrossingBoundariesTest::queueFull);
        says("by the DAY on which he died, or, where it can't cross on that, the next on which it can (up to 40)",
                CrossingBoundariesTest::heirsByDay);
        says("then the soonest TICK that it ARRIVES, then the least", CrossingBoundariesTest::heirsByTick);
        says("which is the how manieth; none, if it never can.", CrossingBoundariesTest::noHeirs);
    }

    private static void sands() {
        says("SANK (at most 12): on a DAY at a CELL somebody sank, or stood.", CrossingBoundariesTest::mostSank);
        says("of all 25 that QUICKSAND could MOVE by (-2 to 2 each; it lies as told on DAY 0)",
                CrossingBoundariesTest::allMotions);
        says("those by which it was there on that DAY where one sank, not where one stood",
                CrossingBoundariesTest::sankAndStood);
        says("the least (5 by along x and 2, along y and 2)", CrossingBoundariesTest::leastMotion);
        says("CELLS that are no QUICKSAND by any of them, as bits;", CrossingBoundariesTest::soundCells);
        says("DOUBTFUL: by some, not by others.", CrossingBoundariesTest::doubtfulCells);
        says("start later than a TICK and can cross still (0 to 95; none, if it can't from that).",
                CrossingBoundariesTest::later);
        says("how much later it ARRIVES (none, if one of both can't).", CrossingBoundariesTest::muchLater);
    }

    private static void chances() {
        says("with FOG of a strength each STEP takes as many TICKS more", CrossingBoundariesTest::fogSteps);
        says("how likely a PARTY can cross from a TICK on, by WEIGHTS, as a fraction in lowest terms;",
                CrossingBoundariesTest::likely);
        says("in the mean TICKS that it takes (ARRIVES less the first one), of strengths by which it can, "
                + "likewise (0 by 1 without).", CrossingBoundariesTest::mean);
        says("the fewest who, left ashore, leave none TOO MANY (of like ones the least as bits of PARTIES).",
                CrossingBoundariesTest::fewestLeft);
        says("horses and stilts are let for 1 to 9 each;", CrossingBoundariesTest::rentsOfAll);
        says("the cheaper one, of like ones horses; none, if neither does;", CrossingBoundariesTest::cheaper);
        says("with its SPEED, LOAD and ROW)", CrossingBoundariesTest::asTold);
        says("A couple RESTS, if neither owner gains more by another rent", CrossingBoundariesTest::couples);
        says("the least WIND (0 to 9) by which a PARTY can't cross on a DAY from a TICK on; none.",
                CrossingBoundariesTest::winds);
        says("n DAYS (0 to 40) from 0 on a strength is drawn for each", CrossingBoundariesTest::drawnDays);
        says("(a DRAW of all WEIGHTS, the first by which they together are more)", CrossingBoundariesTest::draws);
        says("(an int that wraps); a DRAW of n is its bits 16 to 30 MOD n then.", CrossingBoundariesTest::seeds);
        says("how many calls were refused: 0 TEXTS with a FAULT, 1 what can't be BOOKED, 2 SANK.",
                CrossingBoundariesTest::status);
        says("AN IMAGE keeps what is BOOKED, SANK, STATUS.", CrossingBoundariesTest::imageKeeps);
        says("An object is used for at most 512 calls after it has been made;", CrossingBoundariesTest::manyCalls);
    }

    private static void daysAndTicks() {
        EbbIsland x = of("water hour+day/10;");
        due("the first tick", x.water(0, 0), 0);
        due("the last of an hour", x.water(0, 3), 0);
        due("the first of the next", x.water(0, 4), 1);
        due("the last hour", x.water(0, 92), 20);
        due("of the last day", x.water(40, 0), 4);
        for (int wrong : new int[] {-1, 41, LEAST, MOST}) {
            noSuch("day " + wrong, () -> x.water(wrong, 0));
        }
        for (int wrong : new int[] {-1, 96, LEAST, MOST}) {
            noSuch("tick " + wrong, () -> x.water(0, wrong));
        }
        due("the last tick", of("water tick-80;").water(40, 95), 15);
    }

    private static void waterKept() {
        worth("0", 0);
        worth("0-1", 0);
        worth("0-9999", 0);
        worth("19", 19);
        worth("20", 20);
        worth("21", 20);
        worth("9999*9999", 20);
        worth("128*256*256*256-1", 20);
        worth("128*256*256*256", 0);
    }

    private static void waterWithout() {
        EbbIsland x = new EbbIsland();
        int[] hours = {0, 1, 2, 3, 4, 5, 6, 5, 4, 3, 2, 1, 0, 1, 2, 3, 4, 5, 6, 5, 4, 3, 2, 1};
        for (int hour = 0; hour < 24; hour++) {
            due("hour " + hour, x.water(0, 4 * hour), hours[hour]);
            due("the end of hour " + hour, x.water(40, 4 * hour + 3), hours[hour]);
        }
        due("an island without one", of("sands 3 1;wind 9;").water(7, 27), 6);
    }

    private static void roundAbout() {
        int[][] sizes = {{3, 1}, {9, 7}, {4, 5}};
        for (int[] size : sizes) {
            for (int ax = -2; ax <= 2; ax++) {
                for (int ay = -2; ay <= 2; ay++) {
                    moved(size[0], size[1], ax, ay, 0, 0);
                    moved(size[0], size[1], ax, ay, size[0] - 1, size[1] - 1);
                }
            }
        }
    }

    private static void moved(int w, int h, int ax, int ay, int atX, int atY) {
        EbbIsland x = of("sands " + w + " " + h + ";quick " + atX + " " + atY + ";moves " + ax + " " + ay + ";");
        int cellX = atX;
        int cellY = atY;
        for (int day = 0; day <= 40; day++) {
            int cell = w * cellY + cellX;
            due("there on day " + day, x.quick(cell, day), true);
            due("not beside on day " + day, x.quick((cell + 1) % (w * h), day), false);
            cellX = (cellX + ax + w) % w;
            cellY = (cellY + ay + 2 * h) % h;
        }
    }

    private static void always() {
        for (String kind : KINDS) {
            EbbIsland x = of("sands 4 1;rock 1 0;ladder 2 0;quick 0 0;quick 1 0;quick 2 0;quick 3 0;"
                    + "height 0 0 0;height 1 0 0;height 2 0 0;height 3 0 0;water 20;" + kind + " 1 9 0 0;");
            for (int cell = 0; cell < 4; cell++) {
                due(kind + " on " + cell, x.may(0, cell, 0, 0), true);
                due(kind + " on " + cell + " late", x.may(0, cell, 40, 95), true);
            }
            due(kind + " crosses", x.cross(0, 0, 0), 3);
        }
    }

    private static void belowHeight() {
        StringBuilder text = new StringBuilder("sands 9 2;water tick;");
        for (int height = 0; height <= 9; height++) {
            text.append("height ").append(1 + height % 7).append(' ').append(height / 7).append(' ').append(height).append(';');
        }
        for (int kind = 0; kind < 4; kind++) {
            EbbIsland x = of(text + KINDS[kind] + " 1 0 0 0;");
            for (int height = 0; height <= 9; height++) {
                int cell = 9 * (height / 7) + 1 + height % 7;
                int below = kind == 2 ? height + 2 : height;
                for (int level = 0; level <= 12; level++) {
                    due(KINDS[kind] + " on " + height + " by " + level, x.may(0, cell, 0, level), level < below);
                }
            }
        }
    }

    private static void noQuicksand() {
        for (String kind : KINDS) {
            EbbIsland x = of(DRY + "quick 1 0;" + kind + " 1 0 0 0;" + kind + " 1 1 0 0;moves 1 0;");
            due(kind + " without a load", x.may(0, 1, 0, 0), true);
            due(kind + " with a load", x.may(1, 1, 0, 0), false);
            due(kind + " when it has moved", x.may(1, 1, 1, 0), true);
            due(kind + " when it is back", x.may(1, 1, 3, 0), false);
            due(kind + " crosses without", x.cross(0, 0, 0), 2);
            due(kind + " doesn't with", x.cross(1, 0, 0), NONE);
        }
    }

    private static void horsesLoad() {
        for (int height = 1; height <= 9; height++) {
            for (int load = 0; load <= 9; load++) {
                EbbIsland x = of(DRY + "height 1 0 " + height + ";horse 1 " + load + " 0 0;walk 1 " + load + " 0 0;");
                due("horse with " + load + " on " + height, x.may(0, 1, 0, 0), load <= height + 2);
                due("walk with " + load + " on " + height, x.may(1, 1, 0, 0), true);
            }
        }
    }

    private static void beside() {
        due("west of the shore is nothing", of("sands 3 2;water 0;walk 1 1 1 0;").cross(0, 0, 0), 2);
        String low = "height 1 0 0;height 1 1 0;height 1 2 0;height 1 3 0;height 1 4 0;height 1 5 0;";
        EbbIsland south = of("sands 3 7;water 3;" + low + "walk 1 1 0 0;");
        due("north of the first row is nothing", south.cross(0, 0, 0), 8);
        due("the way goes south", south.way(1), 3);
        String high = "height 1 1 0;height 1 2 0;height 1 3 0;height 1 4 0;height 1 5 0;height 1 6 0;";
        EbbIsland north = of("sands 3 7;water 3;" + high + "walk 1 1 6 0;");
        due("south of the last row is nothing", north.cross(0, 0, 0), 8);
        due("the way goes north", north.way(1), 15);
        due("none goes aslant", of("sands 4 2;water 3;height 1 1 0;height 2 0 0;walk 1 1 0 0;").cross(0, 0, 0), NONE);
        EbbIsland bend = of("sands 5 5;water 3;height 1 0 0;height 1 1 0;height 1 3 0;height 1 4 0;height 2 0 0;height 2 1 0;"
                + "height 2 4 0;height 3 0 0;height 3 1 0;height 3 2 0;height 3 4 0;walk 1 1 2 0;");
        // East, east, south, east, east: the only way.
        due("a bend", bend.cross(0, 0, 0), 5);
        wayIs(bend, 10, 11, 12, 17, 18, 19);
    }

    private static void stepTicks() {
        for (int speed = 1; speed <= 4; speed++) {
            for (int kind = 0; kind < 4; kind++) {
                int ticks = kind == 3 ? new int[] {0, 1, 1, 2, 2}[speed] : speed;
                EbbIsland x = of(DRY + KINDS[kind] + " " + speed + " 0 0 0;");
                due(KINDS[kind] + " by " + speed, x.cross(0, 0, 0), 2 * ticks);
                due("the last of the first step", x.way(ticks), 1);
                due("the first of the second step", x.way(ticks + 1), 2);
                due("the last start", x.starts(0, 0, 2), 95 - 2 * ticks);
            }
        }
    }

    /** One tick of flood: it matters if it is one of the three of the step to the sand. */
    private static void allTicksOfAStep() {
        for (int flood = 0; flood <= 6; flood++) {
            EbbIsland x = of("sands 3 1;walk 3 1 0 0;water (tick=" + flood + ")*9;");
            boolean within = flood >= 1 && flood <= 3;
            due("flood in " + flood, x.cross(0, 0, 0), within ? flood + 6 : 6);
            due("where it is in the first tick", x.way(1), within ? 0 : 1);
        }
        EbbIsland x = of("sands 3 1;walk 3 1 0 0;water (3<tick)*9;");
        due("just in time", x.cross(0, 0, 0), 6);
        due("a tick too late", x.cross(0, 0, 1), NONE);
    }

    /** The second cell is dry in tick 5 alone, so one must stand on the first one in tick 4. */
    private static void waiting() {
        String text = "sands 4 1;height 1 0 5;height 2 0 3;walk 1 1 0 0;";
        EbbIsland dry = of(text + "water 4-(tick=5)*4;");
        due("it may be there in the next one", dry.cross(0, 0, 0), 6);
        due("from tick 3 on", dry.cross(0, 0, 3), 6);
        due("from tick 4 on", dry.cross(0, 0, 4), NONE);
        due("the last start", dry.starts(0, 0, 2), 3);
        EbbIsland flood = of(text + "water 4+(tick=4)*5-(tick=5)*4;");
        due("it may not", flood.cross(0, 0, 0), NONE);
        due("so there are no starts", flood.starts(0, 0, 0), 0);
        due("nor is it late", flood.late(0, 0, 0), NONE);
        // One must stand on the rock in tick 4, though to wait on the sand in the north would be first.
        EbbIsland rock = of("sands 4 2;height 1 0 5;rock 1 1;height 2 0 3;height 2 1 3;walk 1 1 1 0;water 4+(tick=4)*5-(tick=5)*4;");
        due("on a rock", rock.cross(0, 0, 0), 6);
        wayIs(rock, 4, 0, 0, 1, 5, 6, 7);
        due("from tick 3 on", rock.starts(0, 0, 2), 3);
        EbbIsland ashore = of("sands 3 1;walk 1 1 0 0;water (tick<94)*20;");
        due("ashore by any water", ashore.cross(0, 0, 0), 95);
        due("a way of all ticks", ashore.way(NONE), 96);
        due("its last tick", ashore.way(95), 2);
        due("its last wait", ashore.way(93), 0);
    }

    private static void wayIs(EbbIsland x, int... cells) {
        due("ticks of the way", x.way(NONE), cells.length);
        for (int i = 0; i < cells.length; i++) {
            due("way " + i, x.way(i), cells[i]);
        }
    }

    private static void inItsRow() {
        for (int row = 0; row < 7; row++) {
            EbbIsland x = of("sands 9 7;water 0;walk 1 1 " + row + " 0;");
            due("row " + row, x.cross(0, 0, 50), 58);
            due("its first cell", x.way(0), 9 * row);
            due("its last cell", x.way(8) % 9, 8);
        }
    }

    private static void anyCell() {
        EbbIsland x = of("sands 3 3;water 3;height 1 1 0;height 1 0 0;walk 2 1 1 0;");
        due("round by the south", x.cross(0, 0, 0), 6);
        due("it ends in the south", x.way(6), 8);
        EbbIsland y = of("sands 3 3;water 3;height 1 1 0;walk 2 1 1 0;");
        due("round by north or south", y.cross(0, 0, 0), 6);
        due("of both the north", y.way(6), 2);
    }

    private static void endOfDay() {
        EbbIsland x = of(DRY + "walk 4 0 0 0;walk 1 0 0 0;");
        due("the last tick by 4", x.cross(0, 0, 87), 95);
        due("a tick too late by 4", x.cross(0, 0, 88), NONE);
        due("the last tick by 1", x.cross(1, 40, 93), 95);
        due("a tick too late by 1", x.cross(1, 40, 94), NONE);
        due("from the last tick on", x.cross(1, 0, 95), NONE);
        due("as soon as can be", x.cross(1, 0, 0), 2);
    }

    private static void firstWay() {
        EbbIsland x = of("sands 4 3;water 0;walk 1 1 1 0;");
        due("straight", x.cross(0, 0, 0), 3);
        wayIs(x, 4, 5, 6, 7);
        // North along the shore, as that is first, while it waits for the ebb.
        EbbIsland y = of("sands 3 3;walk 1 1 1 0;water (tick<4)*9;");
        due("it waits for the ebb", y.cross(0, 0, 0), 5);
        wayIs(y, 3, 0, 0, 0, 1, 2);
        EbbIsland z = of("sands 3 3;walk 2 1 1 0;water (tick<4)*9;");
        due("by steps of two ticks", z.cross(0, 0, 0), 7);
        wayIs(z, 3, 0, 0, 0, 1, 1, 2, 2);
        // It waits ashore rather than on the sand, as that is first, where there is no time for the north.
        EbbIsland w = of("sands 4 2;height 1 0 0;height 2 0 0;height 1 1 5;height 2 1 3;walk 1 1 1 0;water (tick<3)*4;");
        due("it waits for the second cell", w.cross(0, 0, 0), 4);
        wayIs(w, 4, 4, 5, 6, 7);
        EbbIsland u = of("sands 3 3;walk 2 1 2 0;water (tick<8)*9;");
        due("by two steps north", u.cross(0, 0, 0), 11);
        wayIs(u, 6, 3, 3, 0, 0, 0, 0, 0, 1, 1, 2, 2);
        EbbIsland v = of("sands 3 3;walk 4 1 1 0;water (tick<4)*9;");
        due("by steps of four ticks", v.cross(0, 0, 0), 11);
        wayIs(v, 3, 3, 3, 3, 4, 4, 4, 4, 5, 5, 5, 5);
    }

    private static void cannot() {
        EbbIsland x = of("sands 3 1;walk 1 1 0 0;water 4;");
        due("never", x.cross(0, 0, 0), NONE);
        noSuch("no way is kept", () -> x.way(NONE));
        due("just so", of("sands 3 1;walk 1 1 0 0;water 3;").cross(0, 0, 0), 2);
    }

    private static void bookedByWay() {
        EbbIsland x = of("sands 3 3;water (tick<4)*9;ebb 6;" + "walk 2 1 1 0;".repeat(6));
        for (int party = 0; party < 6; party++) {
            due("as many as there are parties", x.book(party, party, party), party + 1);
        }
        due("no more can be", x.book(0, 10, 0), NONE);
        for (int i = 0; i < 6; i++) {
            due("arrives", x.cross(i, i, i), x.booked(i, 3));
            for (int tick = i; tick <= x.booked(i, 3); tick++) {
                due("its way in " + tick, x.at(i, tick), x.way(tick - i));
            }
        }
    }

    private static void bookedAlready() {
        EbbIsland x = of(DRY + "walk 1 1 0 0;walk 4 1 0 0;ebb 6;");
        due("it can't", x.book(1, 0, 88), NONE);
        due("it can", x.book(1, 0, 87), 1);
        due("already on that day", x.book(1, 0, 87), NONE);
        due("already on another", x.book(1, 1, 0), NONE);
        due("another party", x.book(0, 0, 93), 2);
        due("refused", x.count(14), 3);
    }

    private static void aheadOfDeath() {
        EbbIsland x = of(DRY + "walk 1 1 0 20;walk 1 1 0 0;");
        due("a day ahead", x.book(0, 19, 0), NONE);
        due("on day 0", x.book(0, 0, 0), NONE);
        due("on the day", x.book(0, 20, 0), 1);
        due("on day 0 who died on it", x.book(1, 0, 0), 2);
        x.undo();
        due("on the last day", x.book(1, 40, 0), 2);
        due("refused", x.count(14), 2);
    }

    private static void fullDay() {
        for (int ebb = 1; ebb <= 6; ebb++) {
            EbbIsland x = of(DRY + "ebb " + ebb + ";" + "walk 1 1 0 0;".repeat(6));
            for (int party = 0; party < 6; party++) {
                due("ebb " + ebb + ", party " + party, x.book(party, 3, 0), party < ebb ? party + 1 : NONE);
            }
            due("refused", x.count(14), 6 - ebb);
            if (ebb < 6) {
                due("another day", x.book(5, 4, 0), ebb + 1);
            }
        }
        EbbIsland without = of(DRY + "walk 1 1 0 0;".repeat(3));
        without.book(0, 0, 0);
        due("two without", without.book(1, 0, 0), 2);
        due("a third", without.book(2, 0, 0), NONE);
    }

    private static void bookedQuarrels() {
        EbbIsland x = of(DRY + "ebb 6;" + "walk 1 1 0 0;".repeat(6) + "quarrel 0 5;quarrel 3 2;");
        due("one", x.book(0, 1, 0), 1);
        due("it quarrels with that", x.book(5, 1, 50), NONE);
        due("not on another day", x.book(5, 2, 0), 2);
        due("told the other way round", x.book(2, 1, 0), 3);
        due("either way", x.book(3, 1, 0), NONE);
        due("no quarrel", x.book(4, 1, 0), 4);
        due("refused", x.count(14), 2);
    }

    private static void lastOneFirst() {
        EbbIsland x = of(DRY + "walk 1 1 0 0;".repeat(3));
        due("none", x.undo(), NONE);
        x.book(2, 0, 0);
        x.book(0, 0, 0);
        x.book(1, 1, 0);
        due("the last", x.undo(), 2);
        due("the next is of party 0", x.booked(1, 0), 0);
        noSuch("it is gone", () -> x.booked(2, 0));
        due("its party can be booked again", x.book(1, 1, 0), 3);
        due("all", x.undo() * 100 + x.undo() * 10 + x.undo(), 210);
        due("none again", x.undo(), NONE);
        due("none is refused", x.count(14), 0);
        due("the day is free", x.book(1, 0, 0), 1);
    }

    private static void meetings() {
        EbbIsland x = of("sands 3 1;water 0;ebb 6;" + "walk 2 1 0 0;".repeat(4));
        x.book(0, 0, 0);
        x.book(1, 0, 1);
        x.book(2, 0, 2);
        x.book(3, 1, 0);
        due("in the last tick on the sand", x.met(0, 1), 2);
        due("on the shore and on the island alone", x.met(0, 2), NONE);
        due("a tick behind", x.met(1, 2), 3);
        due("another day", x.met(0, 3), NONE);
        EbbIsland y = of("sands 4 1;rock 1 0;ladder 2 0;water 20;ebb 6;walk 1 1 0 0;walk 1 1 0 0;");
        y.book(0, 40, 92);
        y.book(1, 40, 92);
        due("on a rock", y.met(0, 1), 93);
        due("either way round", y.met(1, 0), 93);
    }

    private static void twoOnALadder() {
        EbbIsland x = of("sands 3 2;ladder 1 0;ladder 1 1;ebb 6;walk 2 1 0 0;walk 2 1 0 0;walk 2 1 1 0;");
        x.book(0, 0, 0);
        x.book(2, 0, 0);
        due("each on one of its own", x.crowded(0), NONE);
        x.book(1, 0, 1);
        due("two in one tick", x.crowded(0), 2);
        due("one is to be left", x.leave(0), 1);
        x.undo();
        due("who is undone isn't there", x.crowded(0), NONE);
        due("nobody is to be left then", x.leave(0), 0);
        x.book(1, 0, 2);
        due("one behind the other", x.crowded(0), NONE);
        x.undo();
        x.book(1, 1, 0);
        due("on another day", x.crowded(0) * 10 + x.crowded(1), -11);
        EbbIsland late = of("sands 3 1;ladder 1 0;walk 1 1 0 0;walk 1 1 0 0;");
        late.book(0, 40, 93);
        late.book(1, 40, 93);
        due("in the last ticks of the last day", late.crowded(40), 94);
    }

    private static void startsOfADay() {
        EbbIsland one = of("sands 3 1;walk 1 1 0 0;water (1<tick)*9;");
        startsAre(one, 1, 0, 0, 2);
        EbbIsland none = of("sands 3 1;walk 1 1 0 0;water (0<tick)*9;");
        startsAre(none, 0, NONE, NONE, NONE);
        EbbIsland most = of(DRY + "walk 1 1 0 0;");
        startsAre(most, 94, 0, 93, 2);
        EbbIsland last = of("sands 3 1;walk 1 1 0 0;water (tick<94)*9;");
        startsAre(last, 94, 0, 93, 95);
        EbbIsland tooLate = of("sands 3 1;walk 1 1 0 0;water (tick<95)*9;");
        startsAre(tooLate, 0, NONE, NONE, NONE);
        EbbIsland slowest = of("sands 9 1;walk 4 1 0 0;water 0;");
        startsAre(slowest, 64, 0, 63, 32);
    }

    private static void startsAre(EbbIsland x, int many, int first, int last, int soonest) {
        due("how many", x.starts(0, 0, 0), many);
        due("the first", x.starts(0, 0, 1), first);
        due("the last", x.starts(0, 0, 2), last);
        due("the soonest", x.starts(0, 0, 3), soonest);
        for (int tick = 0; tick < 96; tick++) {
            due("from " + tick, x.cross(0, 0, tick) != NONE, tick <= last);
        }
    }

    private static void soonest() {
        EbbIsland x = of("sands 3 1;walk 1 1 0 0;water (not tick=50)*9;");
        due("by the one dry tick", x.starts(0, 0, 3), 51);
        due("its last start", x.starts(0, 0, 2), 49);
        due("on another day as well", x.starts(0, 40, 3), 51);
    }

    private static void fromSomeTick() {
        EbbIsland x = of("sands 3 1;walk 1 1 0 3;water 9-(day=7 and tick=94)*9;");
        due("by the last ticks of one day", x.burials(), 1);
        due("on that day", x.buried(0), 7);
        due("a tick later none", of("sands 3 1;walk 1 1 0 3;water 9-(day=7 and tick=95)*9;").burials(), NONE);
    }

    private static void waitLater() {
        for (int wait = 0; wait <= 20; wait += 10) {
            String text = "sands 3 1;wait " + wait + ";walk 1 1 0 20;water 9-(day=";
            EbbIsland x = of(text + (20 + wait) + ")*9;");
            due("as long as wait " + wait, x.burials(), 1);
            due("on that day", x.buried(0), 20 + wait);
            due("a day longer", of(text + (21 + wait) + ")*9;").burials(), NONE);
            due("a day sooner than he died", of(text + "19)*9;").burials(), NONE);
        }
        due("nine without", of("sands 3 1;walk 1 1 0 0;water 9-(day=9)*9;").burials(), 1);
        due("ten without", of("sands 3 1;walk 1 1 0 0;water 9-(day=10)*9;").burials(), NONE);
    }

    private static void ebbAndQuarrel() {
        String six = DRY + "wait 5;" + "walk 1 1 0 0;".repeat(6);
        int[] due = {0, 6, 3, 2, 2, 2, 1};
        for (int ebb = 1; ebb <= 6; ebb++) {
            due("ebb " + ebb, of(six + "ebb " + ebb + ";").burials(), due[ebb]);
        }
        due("a day too few", of(six.replace("wait 5", "wait 4") + "ebb 1;").burials(), NONE);
        due("three who quarrel", of(six + "ebb 6;quarrel 0 1;quarrel 1 2;quarrel 0 2;").burials(), 3);
        due("two days for them", of(six.replace("wait 5", "wait 1") + "ebb 6;quarrel 0 1;quarrel 1 2;quarrel 0 2;").burials(), NONE);
        due("a ring of five", of(six + "ebb 6;quarrel 0 1;quarrel 1 2;quarrel 2 3;quarrel 3 4;quarrel 4 0;").burials(), 3);
        due("a ring of six", of(six + "ebb 6;quarrel 0 1;quarrel 1 2;quarrel 2 3;quarrel 3 4;quarrel 4 5;quarrel 5 0;").burials(), 2);
    }

    private static void fewEbbs() {
        // Together they wait until the last one died, though each could be buried sooner.
        daysAre(DRY + "ebb 6;walk 1 1 0 0;walk 1 1 0 4;walk 1 1 0 9;", 1, 9, 9, 9);
        daysAre(DRY + "ebb 6;walk 1 1 0 0;walk 1 1 0 4;walk 1 1 0 10;", 2, 0, 10, 10);
        daysAre(DRY + "ebb 6;wait 0;walk 1 1 0 0;walk 1 1 0 1;walk 1 1 0 0;", 2, 0, 1, 0);
        due("without parties", of("").burials(), 0);
    }

    private static void daysAre(String text, int ebbs, int... days) {
        EbbIsland x = of(text);
        due("ebbs of " + text, x.burials(), ebbs);
        for (int party = 0; party < days.length; party++) {
            due("day of " + party + " of " + text, x.buried(party), days[party]);
        }
    }

    private static void firstRowOfDays() {
        daysAre(DRY + "ebb 2;" + "walk 1 1 0 0;".repeat(5), 3, 0, 0, 1, 1, 2);
        daysAre(DRY + "ebb 6;" + "walk 1 1 0 0;".repeat(6) + "quarrel 0 1;quarrel 0 2;", 2, 0, 1, 1, 0, 0, 0);
        daysAre(DRY + "ebb 1;walk 1 1 0 2;walk 1 1 0 0;walk 1 1 0 1;", 3, 2, 0, 1);
        daysAre(DRY + "ebb 1;wait 1;walk 1 1 0 0;walk 1 1 0 0;", 2, 0, 1);
        // The first party can't have day 0, as the others need it.
        daysAre(DRY + "ebb 1;wait 1;walk 1 1 0 1;walk 1 1 0 0;walk 1 1 0 0;", 3, 2, 0, 1);
    }

    private static void noBurials() {
        EbbIsland x = of(DRY + "ebb 1;wait 0;walk 1 1 0 0;walk 1 1 0 0;");
        due("two on a day of one", x.burials(), NONE);
        noSuch("none are kept", () -> x.buried(0));
        EbbIsland y = of(DRY + "ebb 1;wait 0;walk 1 1 0 0;walk 1 1 0 1;");
        y.book(0, 0, 0);
        y.book(1, 1, 0);
        due("what is booked isn't asked", y.burials(), 2);
        due("the day of a booked one", y.buried(0), 0);
        due("it stays booked", y.count(10), 2);
    }

    private static void queueIs(String text, int... days) {
        EbbIsland x = of(text);
        for (int party = 0; party < days.length; party++) {
            due("queue " + party + " of " + text, x.queue(party), days[party]);
        }
    }

    private static void queueDays() {
        queueIs(DRY + "walk 1 1 0 0;walk 1 1 0 20;", 0, 20);
        queueIs("sands 3 1;water 9-(day=40)*9;walk 1 1 0 0;walk 1 1 0 20;walk 1 1 0 1;", 40, NONE, 40);
        queueIs("sands 3 1;water 9-(day=19)*9;walk 1 1 0 20;walk 1 1 0 19;", NONE, 19);
        queueIs("sands 3 1;water 9;walk 1 1 0 0;", NONE);
        // No wait: nobody is refused for waiting too long.
        queueIs("sands 3 1;water (day<40)*9;wait 0;walk 1 1 0 0;", 40);
    }

    private static void queuedOnes() {
        // On day 1 the first one died, on day 2 he is buried; the horse never crosses and holds nobody up.
        queueIs("sands 3 1;water (day=1)*9;ebb 1;walk 1 1 0 1;horse 1 9 0 0;walk 1 1 0 2;walk 1 1 0 0;", 2, NONE, 3, 0);
        // The sand is quick on day 0 for who has a load.
        queueIs(DRY + "quick 1 0;moves 1 0;walk 1 1 0 0;walk 1 0 0 0;", 1, 0);
    }

    private static void haste() {
        queueIs(DRY + "ebb 1;walk 1 1 0 2;walk 1 1 0 1;walk 1 1 0 2;walk 1 1 0 0;", 2, 1, 3, 0);
        queueIs("sands 3 1;water (day<20)*9;ebb 1;walk 1 1 0 20;walk 1 1 0 7;walk 1 1 0 0;walk 1 1 0 7;", 23, 21, 20, 22);
        queueIs(DRY + "ebb 1;" + "walk 1 1 0 0;".repeat(6), 0, 1, 2, 3, 4, 5);
    }

    private static void queueFull() {
        queueIs(DRY + "ebb 6;" + "walk 1 1 0 0;".repeat(6), 0, 0, 0, 0, 0, 0);
        queueIs(DRY + "ebb 5;" + "walk 1 1 0 0;".repeat(6), 0, 0, 0, 0, 0, 1);
        queueIs(DRY + "ebb 2;" + "walk 1 1 0 0;".repeat(4) + "quarrel 0 1;", 0, 1, 0, 1);
        queueIs(DRY + "ebb 6;" + "walk 1 1 0 0;".repeat(3) + "quarrel 0 1;quarrel 1 2;quarrel 0 2;", 0, 1, 2);
        // The one who is least in haste goes as well, as he with whom it quarrels isn't buried on that day.
        queueIs(DRY + "ebb 6;walk 1 1 0 0;walk 1 1 0 0;walk 1 1 0 0;quarrel 0 1;quarrel 1 2;", 0, 1, 0);
    }

    private static void heirsAre(String text, int... ranks) {
        EbbIsland x = of(text);
        for (int party = 0; party < ranks.length; party++) {
            due("heir " + party + " of " + text, x.heir(party), ranks[party]);
        }
    }

    private static void heirsByDay() {
        heirsAre(DRY + "walk 1 1 0 20;walk 4 1 0 19;walk 4 1 0 0;", 2, 1, 0);
        heirsAre("sands 3 1;water 9-(day=40)*9;walk 2 1 0 0;walk 1 1 0 20;", 1, 0);
        heirsAre("sands 3 1;water 9-(day=19)*9;walk 2 1 0 20;walk 1 1 0 19;walk 1 1 0 0;", NONE, 0, 1);
        heirsAre("sands 3 1;water 9;walk 1 1 0 0;", NONE);
        // The wait is none of theirs.
        heirsAre("sands 3 1;wait 0;water (day<30)*9;walk 1 1 0 0;walk 1 1 0 20;", 0, 1);
    }

    private static void heirsByTick() {
        heirsAre(DRY + "walk 4 1 0 0;walk 3 1 0 0;walk 2 1 0 0;walk 1 1 0 0;run 4 1 0 0;run 2 1 0 0;", 5, 4, 2, 0, 3, 1);
        heirsAre(DRY + "walk 1 1 0 0;".repeat(6), 0, 1, 2, 3, 4, 5);
        heirsAre(DRY + "walk 1 1 0 1;walk 4 1 0 0;", 1, 0);
    }

    private static void noHeirs() {
        // Who never can takes no place ahead of the others.
        heirsAre(DRY + "horse 1 9 0 0;walk 1 1 0 3;horse 1 9 0 0;walk 1 1 0 2;", NONE, 1, NONE, 0);
        heirsAre("sands 3 1;water (day<41)*9;walk 1 1 0 20;", NONE);
        heirsAre("sands 3 1;water 9-(tick=95)*9;walk 1 1 0 0;", NONE);
    }

    private static void mostSank() {
        EbbIsland x = of("sands 9 7;quick 4 3;");
        for (int i = 1; i <= 12; i++) {
            due("the " + i + "th", x.sink(31, 0, true), i);
        }
        due("a 13th", x.sink(31, 0, true), NONE);
        due("a 13th that stood", x.sink(0, 0, false), NONE);
        due("they are refused", x.count(15), 2);
        due("none of them counts", x.motions(0), 25);
        due("one less", x.forget(), 11);
        due("the twelfth again", x.sink(31, 0, false), 12);
        due("it counts", x.motions(0), 0);
    }

    private static void allMotions() {
        EbbIsland x = of("sands 9 7;quick 4 3;moves 2 2;");
        due("all, whatever is told", x.motions(0), 25);
        for (int motion = 0; motion < 25; motion++) {
            int cell = 9 * (3 + motion % 5 - 2) + 4 + motion / 5 - 2;
            x.sink(cell, 1, true);
            due("one by " + motion, x.motions(0), 1);
            due("that is " + motion, x.motions(1), motion);
            due("it is forgotten", x.forget(), 0);
        }
        x.sink(31, 0, true);
        due("as told on day 0", x.motions(0), 25);
        x.sink(30, 0, true);
        due("not elsewhere on day 0", x.motions(0), 0);
        due("without quicksand", of("").motions(0), 25);
    }

    private static void sankAndStood() {
        EbbIsland x = of("sands 9 7;quick 4 3;");
        x.sink(31, 1, false);
        due("it has moved", x.motions(0), 24);
        x.sink(31, 1, true);
        due("not both", x.motions(0), 0);
        x.forget();
        x.sink(31, 2, true);
        due("not back on day 2", x.motions(0), 0);
        x.forget();
        // On day 9 it is in its column again by any motion along x, in its row by none along y.
        x.sink(31, 9, true);
        due("back on day 9", x.motions(0), 4);
        EbbIsland y = of("");
        y.sink(0, 0, false);
        due("one stood where none is", y.motions(0), 25);
        y.sink(0, 40, true);
        due("one sank where none is", y.motions(0), 0);
    }

    private static void leastMotion() {
        EbbIsland x = of("sands 9 7;quick 4 3;");
        due("of all", x.motions(1), 0);
        x.sink(9 + 2, 1, false);
        due("but for -2, -2", x.motions(1), 1);
        x.sink(9 * 5 + 6, 1, true);
        due("2, 2", x.motions(1), 24);
        x.sink(0, 0, true);
        due("none", x.motions(1), NONE);
    }

    private static void soundCells() {
        EbbIsland x = of("sands 9 7;quick 8 6;");
        due("all but the last cell", x.sound(0, false), (1L << 62) - 1);
        EbbIsland none = of("sands 9 7;");
        due("all 63", none.sound(40, false), Long.MAX_VALUE);
        none.sink(0, 0, true);
        due("no motion fits", none.sound(0, false), 0);
        EbbIsland y = of("sands 3 1;quick 0 0;");
        due("the other two", y.sound(0, false), 6);
        due("none on day 1", y.sound(1, false), 0);
        due("back on day 3", y.sound(3, false), 6);
        due("day 39", y.sound(39, false), 6);
        due("the last day", y.sound(40, false), 0);
    }

    private static void doubtfulCells() {
        EbbIsland x = of("sands 9 7;quick 4 3;");
        due("none on day 0", x.sound(0, true), 0);
        long square = 0;
        for (int motion = 0; motion < 25; motion++) {
            square |= 1L << 9 * (1 + motion % 5) + 2 + motion / 5;
        }
        due("25 on day 1", x.sound(1, true), square);
        due("the others are sound", x.sound(1, false), Long.MAX_VALUE - square);
        x.sink(31, 1, true);
        due("one motion leaves no doubt", x.sound(1, true), 0);
        due("where it is", x.sound(1, false), Long.MAX_VALUE - (1L << 31));
        x.sink(31, 1, false);
        due("no motion fits", x.sound(1, true), 0);
        EbbIsland last = of("sands 9 7;quick 8 6;");
        due("the last cell in doubt", last.sound(1, true) >>> 62, 1);
    }

    private static void later() {
        EbbIsland x = of(DRY + "walk 1 1 0 0;");
        due("from the first on", x.late(0, 0, 0), 93);
        due("from the last but one", x.late(0, 0, 92), 1);
        due("from the last", x.late(0, 0, 93), 0);
        due("behind the last", x.late(0, 0, 94), NONE);
        due("from the day's last tick", x.late(0, 0, 95), NONE);
        due("one that can't", of("sands 3 1;water 9;walk 1 1 0 0;").late(0, 0, 0), NONE);
        EbbIsland one = of("sands 3 1;walk 1 1 0 0;water (1<tick)*9;");
        due("from 0 alone", one.late(0, 0, 0) * 10 + one.late(0, 0, 1), -1);
    }

    private static void muchLater() {
        EbbIsland x = of(DRY + "walk 1 1 0 0;");
        due("not later", x.costs(0, 0, 93, 0), 0);
        due("93 later", x.costs(0, 0, 0, 93), 93);
        due("the later one can't", x.costs(0, 0, 0, 94), NONE);
        due("nor the last", x.costs(0, 0, 0, 95), NONE);
        due("both can't", x.costs(0, 0, 95, 0), NONE);
        illegal("no such tick", () -> x.costs(0, 0, 0, 96));
        illegal("no such tick from 95 on", () -> x.costs(0, 0, 95, 1));
        illegal("no such tick by far", () -> x.costs(0, 0, 95, MOST));
        illegal("below 0", () -> x.costs(0, 0, 95, -1));
        illegal("below 0 by far", () -> x.costs(0, 0, 0, LEAST));
        EbbIsland ebb = of("sands 3 1;walk 1 1 0 0;water (tick<50)*9;");
        due("it costs nothing", ebb.costs(0, 0, 0, 49), 0);
        due("it costs one", ebb.costs(0, 0, 0, 50), 1);
    }

    private static void fogSteps() {
        for (int strength = 0; strength < 4; strength++) {
            String fog = "fog " + (strength == 0 ? 1 : 0) + " " + (strength == 1 ? 1 : 0) + " " + (strength == 2 ? 1 : 0)
                    + " " + (strength == 3 ? 1 : 0) + ";";
            for (int speed = 1; speed <= 4; speed++) {
                EbbIsland x = of(DRY + fog + "walk " + speed + " 1 0 0;run " + speed + " 1 0 0;");
                due("walk", x.vigil(0, 0, 0, 2), 2 * (speed + strength));
                due("run", x.vigil(1, 0, 0, 2), 2 * ((speed + 1) / 2 + strength));
                due("no part", x.vigil(0, 0, 0, 3), 1);
                due("without fog", x.cross(0, 0, 0), 2 * speed);
            }
        }
    }

    /** From a tick on a walker by 1 can cross the dry strait up to a strength: two steps of 1 and that. */
    private static int startFor(int strength) {
        return 93 - 2 * strength;
    }

    private static void vigilIs(EbbIsland x, int tick, int... want) {
        for (int what = 0; what < 4; what++) {
            due("vigil from " + tick + " what " + what, x.vigil(0, 0, tick, what), want[what]);
        }
    }

    private static void likely() {
        EbbIsland x = of(DRY + "walk 1 1 0 0;fog 9 9 9 9;");
        int[][] want = {{0, 1}, {1, 4}, {1, 2}, {3, 4}, {1, 1}};
        for (int strength = -1; strength < 4; strength++) {
            due("upper by " + strength, x.vigil(0, 0, startFor(strength), 0), want[strength + 1][0]);
            due("lower by " + strength, x.vigil(0, 0, startFor(strength), 1), want[strength + 1][1]);
        }
        EbbIsland without = of(DRY + "walk 1 1 0 0;");
        vigilIs(without, 93, 1, 1, 2, 1);
        vigilIs(without, 94, 0, 1, 0, 1);
        EbbIsland odd = of(DRY + "walk 1 1 0 0;fog 9 6 0 7;");
        vigilIs(odd, startFor(0), 9, 22, 2, 1);
        vigilIs(odd, startFor(1), 15, 22, 14, 5);
        vigilIs(odd, startFor(2), 15, 22, 14, 5);
        vigilIs(odd, startFor(3), 1, 1, 49, 11);
    }

    private static void mean() {
        EbbIsland x = of(DRY + "walk 1 1 0 0;fog 0 2 4 0;");
        vigilIs(x, 0, 1, 1, 16, 3);
        vigilIs(x, startFor(1), 1, 3, 4, 1);
        vigilIs(x, startFor(0), 0, 1, 0, 1);
        vigilIs(of("sands 3 1;water 9;walk 1 1 0 0;fog 9 9 9 9;"), 0, 0, 1, 0, 1);
        // The longest: one waits until tick 94, whatever the fog.
        vigilIs(of("sands 3 1;water (tick<94)*9;walk 1 1 0 0;"), 0, 1, 1, 95, 1);
        vigilIs(of("sands 3 1;water (tick<88)*9;walk 1 1 0 0;fog 9 9 9 9;"), 0, 1, 1, 92, 1);
    }

    private static void fewestLeft() {
        EbbIsland x = of("sands 3 1;ladder 1 0;ebb 6;" + "walk 1 1 0 0;".repeat(6));
        due("none is booked", x.leave(7), 0);
        for (int party = 5; party >= 0; party--) {
            x.book(party, 7, 0);
            due("all but the greatest", x.leave(7), 31 & ~((1 << party) - 1));
        }
        due("another day", x.leave(8), 0);
        due("nothing changes", x.count(10), 6);
        EbbIsland y = of("sands 3 1;ladder 1 0;ebb 6;walk 1 1 0 0;walk 1 1 0 0;walk 1 1 0 0;");
        y.book(0, 7, 0);
        y.book(1, 8, 0);
        y.book(2, 8, 0);
        due("of that day alone", y.leave(8), 2);
        due("one alone", y.leave(7), 0);
    }

    private static void rentsAre(String text, int many, int first) {
        EbbIsland x = of(text);
        due("rents of " + text, x.rents(0, 0, 0), many);
        due("first of " + text, x.rents(0, 0, 1), first);
    }

    private static void rentsOfAll() {
        // Where nobody takes either, all nine by nine rest; where stilts alone are taken, they are let for 9 by any rent of horses.
        rentsAre("", 81, 11);
        rentsAre(DRY + "walk 1 9 0 0;", 9, 19);
    }

    private static void cheaper() {
        // Whoever can take both is had by the cheaper owner, and by horses of like ones: only 1 by 1 rests.
        rentsAre(DRY + "walk 1 0 0 0;", 1, 11);
        rentsAre(DRY + "walk 1 0 0 0;".repeat(6), 1, 11);
        // Neither crosses.
        rentsAre("sands 3 1;water 9;walk 1 0 0 0;", 81, 11);
        // Stilts alone cross, by a load or by the water.
        rentsAre(DRY + "walk 1 7 0 0;", 9, 19);
        rentsAre(DRY + "walk 1 6 0 0;", 1, 11);
        rentsAre("sands 3 1;water 5;walk 1 0 0 0;", 9, 19);
        rentsAre("sands 3 1;water 6;walk 1 0 0 0;", 81, 11);
    }

    private static void asTold() {
        EbbIsland x = of(DRY + "run 4 0 0 0;");
        due("its whole speed", x.rents(0, 87, 0), 1);
        due("too late by it", x.rents(0, 88, 0), 81);
        due("on quicksand with a load", of(DRY + "quick 1 0;walk 1 1 0 0;").rents(0, 0, 0), 81);
        due("on quicksand without", of(DRY + "quick 1 0;walk 1 0 0 0;").rents(0, 0, 0), 1);
        EbbIsland rows = of("sands 3 2;water 3;height 1 0 0;walk 1 0 1 0;walk 4 0 0 0;");
        due("one row is low", rows.rents(0, 91, 0), 1);
        due("horses and stilts, whatever its kind", of("sands 3 1;water 5;stilts 1 0 0 0;").rents(0, 0, 1), 19);
    }

    private static void couples() {
        rentsAre("", 81, 11);
        // Some take stilts alone, some both: 9 by 9 is undercut by 8, and all else by a higher rent.
        rentsAre(DRY + "walk 1 7 0 0;walk 1 0 0 0;", 0, NONE);
        rentsAre(DRY + "walk 1 7 0 0;".repeat(5) + "walk 1 0 0 0;", 0, NONE);
        rentsAre(DRY + "walk 1 7 0 0;".repeat(6), 9, 19);
        EbbIsland x = of(DRY + "walk 1 7 0 0;");
        due("too late for all", x.rents(40, 94, 0), 81);
        due("just in time", x.rents(40, 93, 0), 9);
    }

    private static void winds() {
        for (int wind = 0; wind <= 9; wind++) {
            EbbIsland x = of("sands 3 1;walk 1 1 0 0;wind " + (9 - wind) + ";water (not wind<" + wind + ")*9;");
            due("by " + wind, x.warning(0, 0, 0), wind);
        }
        due("none", of("sands 3 1;walk 1 1 0 0;water (not wind<10)*9;").warning(0, 0, 0), NONE);
        due("the least", of("sands 3 1;walk 1 1 0 0;water (wind=3 or wind=7)*9;").warning(0, 0, 0), 3);
        EbbIsland x = of("sands 3 1;walk 1 1 0 0;water wind*(day=40 and tick=94);");
        due("from the last tick by which it can", x.warning(0, 40, 93), 4);
        due("a tick sooner", x.warning(0, 40, 92), NONE);
        due("too late by any", x.warning(0, 40, 94), 0);
        due("another day", x.warning(0, 39, 93), NONE);
        due("the wind as told is back", x.water(40, 94), 0);
        due("the crossing, too", x.cross(0, 40, 93), 95);
    }

    private static void drawnDays() {
        EbbIsland x = of(DRY + "walk 1 1 0 0;");
        due("no day", x.fogs(0, 0, 0, 0), 0);
        due("one day", x.fogs(0, 0, 0, 1), 1);
        due("40 days", x.fogs(0, 0, 0, 40), 40);
        illegal("41 days", () -> x.fogs(0, 0, 0, 41));
        illegal("-1 days", () -> x.fogs(0, 0, 0, -1));
        illegal("far above", () -> x.fogs(0, 0, 0, MOST));
        illegal("far below", () -> x.fogs(0, 0, 0, LEAST));
        EbbIsland first = of("sands 3 1;walk 1 1 0 20;water (0<day)*9;");
        due("from day 0 on, though nobody died by then", first.fogs(0, 0, 0, 40), 1);
        EbbIsland last = of("sands 3 1;walk 1 1 0 0;water (day<39)*9;");
        due("day 39 is the fortieth", last.fogs(0, 0, 0, 40) * 10 + last.fogs(0, 0, 0, 39), 10);
    }

    /** On how many of the first days the strength drawn is no more than one. */
    private static int drawnUpTo(int most, int seed, int days, int... weights) {
        int many = 0;
        long state = seed & 0xffffffffL;
        int all = weights[0] + weights[1] + weights[2] + weights[3];
        for (int day = 0; day < days; day++) {
            state = (state * 1103515245L + 12345L) % 4294967296L;
            int rest = (int) (state / 65536 % 32768) % all;
            int strength = 0;
            while (rest >= weights[strength]) {
                rest -= weights[strength];
                strength++;
            }
            many += strength <= most ? 1 : 0;
        }
        return many;
    }

    private static void draws() {
        int[][] fogs = {{1, 0, 0, 0}, {0, 0, 0, 1}, {1, 1, 1, 1}, {9, 9, 9, 9}, {0, 3, 0, 2}, {2, 0, 5, 0}};
        for (int[] w : fogs) {
            EbbIsland x = of(DRY + "walk 1 1 0 0;fog " + w[0] + " " + w[1] + " " + w[2] + " " + w[3] + ";");
            for (int most = 0; most < 4; most++) {
                for (int days = 0; days <= 40; days += 5) {
                    due("up to " + most + " on " + days, x.fogs(0, startFor(most), 77, days), drawnUpTo(most, 77, days, w));
                }
            }
        }
    }

    private static void seeds() {
        EbbIsland x = of(DRY + "walk 1 1 0 0;fog 2 1 3 1;");
        for (int seed : new int[] {0, 1, -1, LEAST, MOST, 65536, 32768, 0x7fff0000, 0x80010000, -12345, 12345}) {
            for (int days : new int[] {1, 2, 3, 7, 40}) {
                due("seed " + seed + " on " + days, x.fogs(0, startFor(1), seed, days), drawnUpTo(1, seed, days, 2, 1, 3, 1));
            }
        }
    }

    private static void status() {
        EbbIsland x = of(DRY + "walk 1 1 0 1;");
        due("none", x.count(13) + x.count(14) + x.count(15), 0);
        tell(x, "x");
        tell(x, "x");
        tell(x, "x");
        x.book(0, 0, 0);
        x.book(0, 0, 0);
        for (int i = 0; i < 13; i++) {
            x.sink(0, 0, false);
        }
        due("each of its own", x.count(13) * 100 + x.count(14) * 10 + x.count(15), 321);
        illegal("no text", () -> x.island(1));
        noSuch("no party", () -> x.book(1, 0, 0));
        noSuch("no cell", () -> x.sink(3, 0, false));
        x.undo();
        x.forget();
        x.cross(0, 0, 95);
        due("others aren't counted", x.count(13) * 100 + x.count(14) * 10 + x.count(15), 321);
        due("told anew", tell(x, DRY), 0);
        due("they stay", x.count(13) * 100 + x.count(14) * 10 + x.count(15), 321);
    }

    private static void imageKeeps() {
        EbbIsland x = of(DRY + "ebb 6;walk 1 1 0 0;walk 1 1 0 0;walk 1 1 0 0;quick 1 0;moves 1 0;");
        x.book(0, 1, 0);
        x.book(1, 1, 5);
        x.sink(2, 1, true);
        x.book(1, 1, 5);
        String then = look(x);
        x.image();
        x.undo();
        x.undo();
        x.book(2, 2, 9);
        x.forget();
        x.sink(0, 2, false);
        x.sink(2, 2, false);
        due("restored", x.restore(), true);
        due("all as it was", look(x), then);
        due("its places, too", x.at(0, 1) * 10 + x.at(1, 7), 12);
        x.cross(2, 1, 40);
        x.burials();
        tell(x, "x");
        due("again", x.restore(), true);
        due("the way is none of it", x.way(NONE), 3);
        due("nor the place of a fault", x.fault(), 0);
        due("the status is", x.count(13), 0);
        due("nor the tape", x.feed(0, 0, 0, 0, 0), 20);
        x.restore();
        due("which stays", x.count(12), 20);
    }

    private static void manyCalls() {
        EbbIsland x = of("sands 9 7;water 0;ebb 6;" + "walk 1 1 3 0;".repeat(6));
        int calls = 10;
        while (calls + 12 <= 512) {
            due("booked", x.book(calls % 6, calls % 41, calls % 80), 1);
            due("sank", x.sink(calls % 63, calls % 41, false), 1);
            x.image();
            due("undone", x.undo(), 0);
            due("forgotten", x.forget(), 0);
            due("restored", x.restore(), true);
            due("undone again", x.undo(), 0);
            due("forgotten again", x.forget(), 0);
            due("fed", x.feed(calls, 0, 0, 0, 0), 20);
            due("a fault", x.island(20), 1);
            due("how many", x.count(13), 1);
            x.restore();
            calls += 12;
            x.undo();
            x.forget();
            calls += 2;
        }
    }
}
