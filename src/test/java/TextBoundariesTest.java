/** The boundary cases of the text: each sentence of 'Terms' that names one has a test of its own. */
public final class TextBoundariesTest extends Checks {
    private static final String[] KINDS = {"walk", "horse", "stilts", "run"};
    private static final String SIX = "walk 1 1 1 1;".repeat(6);
    private static final String SIX_QUARRELS =
            "quarrel 0 1;quarrel 0 2;quarrel 0 3;quarrel 0 4;quarrel 0 5;quarrel 1 2;";

    public static void main(String[] args) {
        whatIsTold();
        tokens();
        expressions();
        faults();
        end("TextBoundariesTest");
    }

    private static void whatIsTold() {
        says("W by H CELLS (3 to 9 by 1 to 7; 6 by 4 without)", TextBoundariesTest::sizes);
        says("x from the shore (0) to the island (W less 1), y from north (0); a CELL's number is W by y and x",
                TextBoundariesTest::cellNumbers);
        says("Each has a HEIGHT (0 to 9; 4 without).", TextBoundariesTest::heights);
        says("ROCKS, LADDERS (at most 12 of each;", TextBoundariesTest::mostRocksAndLadders);
        says("a CELL is one of them at most", TextBoundariesTest::oneOfThem);
        says("not on the shore, the island)", TextBoundariesTest::noneAtTheEnds);
        says("QUICKSAND (at most 12 CELLS) on DAY 0", TextBoundariesTest::mostQuicksand);
        says("how it MOVES each DAY (-2 to 2 along x, along y; 0, 0 without)", TextBoundariesTest::moves);
        says("WIND (0 to 9; 0 without)", () -> single("wind", 5, 0, 9, 0));
        says("EBB: how many may be buried on one DAY (1 to 6; 2 without)", () -> single("ebb", 6, 1, 6, 2));
        says("WAIT (0 to 20; 9 without)", () -> single("wait", 7, 0, 20, 9));
        says("PARTIES 0, 1 .. (at most 6)", TextBoundariesTest::mostParties);
        says("a KIND (0 walk, 1 horse, 2 stilts, 3 run)", TextBoundariesTest::kinds);
        says("SPEED (1 to 4)", () -> ofParty(1, 1, 4));
        says("LOAD (0 to 9)", () -> ofParty(2, 0, 9));
        says("a ROW (y) on the shore", TextBoundariesTest::rows);
        says("the DAY (0 to 20) on which he whom they carry died", () -> ofParty(4, 0, 20));
        says("QUARRELS (at most 6): couples of PARTIES", TextBoundariesTest::mostQuarrels);
        says("WEIGHTS of 0 to 3 (0 to 9 each; 1, 0, 0, 0 without)", TextBoundariesTest::weights);
    }

    private static void tokens() {
        says("A TEXT of at most 700 bytes tells it.", TextBoundariesTest::longestText);
        says("words (a .. z, the longest row)", TextBoundariesTest::words);
        says("NUMBERS (1 to 4 digits)", TextBoundariesTest::digits);
        says("signs ; ( ) + - * / < = ;", TextBoundariesTest::signs);
        says("blanks (32, 10) between them count for nothing", TextBoundariesTest::blanks);
        says("ISLAND: ['sands' W H ';'] LINE*.", TextBoundariesTest::emptyTexts);
        says("all in capitals but SIGNED, EXPR being NUMBERS;", TextBoundariesTest::numbersOfLines);
        says("SIGNED: ['-'] NUMBER.", TextBoundariesTest::signed);
    }

    private static void expressions() {
        says("EXPR: AND ('or' AND)*. AND: NOT ('and' NOT)*.", TextBoundariesTest::orAnd);
        says("NOT: 'not' NOT | SUM [('<' | '=') SUM].", TextBoundariesTest::nots);
        says("SUM: PRODUCT (('+' | '-') PRODUCT)*. PRODUCT: PART (('*' | '/') PART)*.", TextBoundariesTest::sums);
        says("PART: NUMBER | VALUE | '(' EXPR ')'.", TextBoundariesTest::parts);
        says("From the left;", TextBoundariesTest::fromTheLeft);
        says("ints that wrap", TextBoundariesTest::wrap);
        says("/ cut down to 0", TextBoundariesTest::cutDown);
        says("by 0 gives 0", TextBoundariesTest::byNothing);
        says("tests, not, and, or are 1 or 0 (what isn't 0 holds)", TextBoundariesTest::whatHolds);
        says("VALUES: 'hour', 'tick', 'day', 'wind'.", TextBoundariesTest::values);
    }

    private static void faults() {
        says("FAULTS, the first along the text", TextBoundariesTest::firstFault);
        says("at a TOKEN's first byte", TextBoundariesTest::firstByte);
        says("of one TOKEN the least", TextBoundariesTest::leastFault);
        says("1 a TOKEN that can't stand there", TextBoundariesTest::cannotStand);
        says("or is none (", TextBoundariesTest::noToken);
        says("the text's length where it ends too soon", TextBoundariesTest::endsTooSoon);
        says("'sands' but at the beginning", TextBoundariesTest::sandsLater);
        says("2 one that can, but is too much: a NUMBER of 5 digits or more", TextBoundariesTest::fiveDigits);
        says("or (not in an EXPR) not as told", TextBoundariesTest::notInAnExpr);
        says("of a SIGNED at the NUMBER", TextBoundariesTest::signedTooMuch);
        says("an X or Y that THE SANDS haven't", TextBoundariesTest::outside);
        says("the fourth WEIGHT, if all are 0", TextBoundariesTest::noWeight);
        says("the first TOKEN of the 13th ROCK, LADDER, QUICKSAND, the 7th PARTY, QUARREL",
                TextBoundariesTest::oneTooMany);
        says("of an EXPR within 6 others (a NUMBER, any word, a parenthesis)", TextBoundariesTest::withinSix);
        says("the seventh 'not' side by side", TextBoundariesTest::seventhNot);
        says("3 any word where a PART must stand that is no VALUE", TextBoundariesTest::noValue);
        says("a PARTY that isn't told ahead", TextBoundariesTest::notTold);
        says("4 the Y of a CELL of which a HEIGHT was told", TextBoundariesTest::heightTwice);
        says("that is a ROCK or LADDER already (for these)", TextBoundariesTest::oneOfThem);
        says("QUICKSAND already (for this)", TextBoundariesTest::quickTwice);
        says("of a ROCK or LADDER on the shore, the island;", TextBoundariesTest::noneAtTheEnds);
        says("the second PARTY of a QUARREL that is the first one", TextBoundariesTest::quarrelWithItself);
        says("or with whom it was told (either way round)", TextBoundariesTest::quarrelTwice);
        says("5 a second 'moves', 'wind', 'ebb', 'wait', 'fog', 'water'.", TextBoundariesTest::second);
    }

    private static void sizes() {
        int[][] sizes = {{3, 1}, {3, 7}, {9, 1}, {9, 7}, {6, 4}};
        for (int[] size : sizes) {
            EbbIsland x = of("sands " + size[0] + " " + size[1] + ";");
            int cells = size[0] * size[1];
            due("W", x.count(0), size[0]);
            due("H", x.count(1), size[1]);
            due("last cell", x.cell(cells - 1, 1), 4);
            noSuch("behind the last cell", () -> x.cell(cells, 1));
        }
        faulty("sands 2 1;", 2, 6);
        faulty("sands 0 1;", 2, 6);
        faulty("sands 10 1;", 2, 6);
        faulty("sands 9999 1;", 2, 6);
        faulty("sands 3 0;", 2, 8);
        faulty("sands 3 8;", 2, 8);
        EbbIsland without = of("wind 1;");
        due("W without", without.count(0), 6);
        due("H without", without.count(1), 4);
    }

    private static void cellNumbers() {
        EbbIsland x = of("sands 9 7;rock 1 0;ladder 7 6;height 0 6 1;height 8 0 2;height 8 6 3;");
        due("rock", x.cell(1, 1), 1);
        due("ladder", x.cell(61, 1), 2);
        due("south on the shore", x.cell(54, 0) * 10 + x.cell(54, 1), 13);
        due("north on the island", x.cell(8, 0) * 10 + x.cell(8, 1), 24);
        due("south on the island", x.cell(62, 0) * 10 + x.cell(62, 1), 34);
        EbbIsland y = of("sands 3 1;rock 1 0;");
        due("shore, rock, island", y.cell(0, 1) * 100 + y.cell(1, 1) * 10 + y.cell(2, 1), 314);
    }

    private static void heights() {
        EbbIsland x = of("height 0 0 0;height 5 3 9;height 1 0 0;height 4 3 9;");
        due("lowest", x.cell(0, 0) + x.cell(1, 0), 0);
        due("highest", x.cell(23, 0) + x.cell(22, 0), 18);
        due("without", x.cell(2, 0), 4);
        faulty("height 1 1 10;", 2, 11);
        faulty("height 1 1 -1;", 1, 11);
        due("without, told anew", tell(x, ""), 0);
        due("its height", x.cell(23, 0), 4);
    }

    private static void mostRocksAndLadders() {
        String rocks = "sands 9 7;" + marks("rock", 12, 1);
        String ladders = "sands 9 7;" + marks("ladder", 12, 3);
        EbbIsland x = of(rocks + marks("ladder", 12, 3));
        due("the twelfth rock", x.cell(9 * 5 + 2, 1), 1);
        due("the twelfth ladder", x.cell(9 * 5 + 4, 1), 2);
        faulty(rocks + "rock 1 6;", 2, rocks.length());
        faulty(ladders + "ladder 1 6;", 2, ladders.length());
        holds(rocks + "ladder 1 6;");
        holds(ladders + "rock 1 6;");
    }

    private static void oneOfThem() {
        faulty("rock 1 2;rock 1 2;", 4, 16);
        faulty("rock 1 2;ladder 1 2;", 4, 18);
        faulty("ladder 1 2;rock 1 2;", 4, 18);
        faulty("ladder 1 2;ladder 1 2;", 4, 20);
        faulty("rock 1 2;rock 2 2;ladder 3 2;ladder 4 2;rock 1 2;", 4, 47);
        faulty("rock 1 2;rock 2 2;ladder 3 2;ladder 4 2;rock 3 2;", 4, 47);
        faulty("rock 1 2;rock 2 2;ladder 3 2;ladder 4 2;ladder 1 2;", 4, 49);
        faulty("rock 1 2;rock 2 2;ladder 3 2;ladder 4 2;ladder 3 2;", 4, 49);
        holds("rock 1 2;ladder 2 1;rock 2 2;ladder 1 1;");
        holds("quick 1 2;rock 1 2;height 1 2 3;");
        holds("quick 1 2;ladder 1 2;height 1 2 3;");
    }

    private static void noneAtTheEnds() {
        faulty("rock 0 0;", 4, 7);
        faulty("rock 5 0;", 4, 7);
        faulty("ladder 0 3;", 4, 9);
        faulty("ladder 5 3;", 4, 9);
        faulty("sands 3 1;rock 2 0;", 4, 17);
        faulty("sands 9 7;ladder 8 6;", 4, 19);
        holds("rock 1 0;rock 4 0;ladder 1 3;ladder 4 3;");
        holds("quick 0 0;quick 5 3;height 0 0 1;height 5 3 1;");
    }

    private static void mostQuicksand() {
        String twelve = "sands 9 7;" + marks("quick", 12, 0);
        EbbIsland x = of(twelve);
        due("twelve", x.count(2), 12);
        due("the twelfth", x.quick(9 * 5 + 1, 0), true);
        faulty(twelve + "quick 8 6;", 2, twelve.length());
        EbbIsland y = of("sands 3 1;rock 1 0;quick 0 0;quick 1 0;quick 2 0;");
        due("on shore, rock and island", y.quick(0, 0) && y.quick(1, 0) && y.quick(2, 0), true);
        due("without", of("").count(2), 0);
    }

    private static void moves() {
        int[][] all = {{-2, 2}, {2, -2}, {0, 0}, {-1, 1}};
        for (int[] by : all) {
            EbbIsland x = of("moves " + by[0] + " " + by[1] + ";");
            due("along x", x.count(3), by[0]);
            due("along y", x.count(4), by[1]);
        }
        faulty("moves 3 0;", 2, 6);
        faulty("moves 0 3;", 2, 8);
        faulty("moves -3 0;", 2, 7);
        faulty("moves 0 -3;", 2, 9);
        EbbIsland without = of("quick 1 1;");
        due("without", without.count(3) * 10 + without.count(4), 0);
        due("lies still", without.quick(7, 40), true);
    }

    private static void single(String word, int what, int low, int high, int without) {
        due("without", of("").count(what), without);
        due("lowest", of(word + " " + low + ";").count(what), low);
        due("highest", of(word + " " + high + ";").count(what), high);
        faulty(word + " " + (high + 1) + ";", 2, word.length() + 1);
        faulty(word + " 9999;", 2, word.length() + 1);
        faulty(word + " -1;", 1, word.length() + 1);
        if (low > 0) {
            faulty(word + " " + (low - 1) + ";", 2, word.length() + 1);
        }
    }

    private static void mostParties() {
        due("none", of("").count(8), 0);
        EbbIsland x = of(SIX);
        due("six", x.count(8), 6);
        due("the sixth", x.party(5, 4), 1);
        noSuch("a seventh", () -> x.party(6, 0));
        for (String kind : KINDS) {
            faulty(SIX + kind + " 1 1 1 1;", 2, SIX.length());
        }
    }

    private static void kinds() {
        for (int kind = 0; kind < KINDS.length; kind++) {
            due("kind", of(KINDS[kind] + " 1 1 1 1;").party(0, 0), kind);
            faulty(KINDS[kind] + "s 1 1 1 1;", 1, 0);
        }
    }

    /** Of each kind the lowest and the highest number that may stand there, and those beside. */
    private static void ofParty(int what, int low, int high) {
        for (String kind : KINDS) {
            int place = kind.length() + 2 * what - 1;
            due("lowest", of(partyLine(kind, what, low)).party(0, what), low);
            due("highest", of(partyLine(kind, what, high)).party(0, what), high);
            faulty(partyLine(kind, what, high + 1), 2, place);
            if (low > 0) {
                faulty(partyLine(kind, what, low - 1), 2, place);
            }
        }
    }

    private static String partyLine(String kind, int what, int number) {
        StringBuilder b = new StringBuilder(kind);
        for (int i = 1; i <= 4; i++) {
            b.append(' ').append(i == what ? number : 1);
        }
        return b.append(';').toString();
    }

    private static void rows() {
        ofParty(3, 0, 3);
        holds("sands 3 1;walk 1 1 0 1;");
        faulty("sands 3 1;walk 1 1 1 1;", 2, 19);
        holds("sands 3 7;run 1 1 6 1;");
        faulty("sands 3 7;run 1 1 7 1;", 2, 18);
    }

    private static void mostQuarrels() {
        EbbIsland x = of(SIX + SIX_QUARRELS);
        due("six", x.count(9), 6);
        due("of the first", x.party(0, 5), 62);
        due("of the last couple", x.party(1, 5) * 100 + x.party(2, 5), 503);
        faulty(SIX + SIX_QUARRELS + "quarrel 3 4;", 2, SIX.length() + SIX_QUARRELS.length());
        due("without", of(SIX).count(9), 0);
    }

    private static void weights() {
        EbbIsland x = of("");
        due("without", x.count(20) * 1000 + x.count(21) * 100 + x.count(22) * 10 + x.count(23), 1000);
        EbbIsland y = of("fog 9 9 9 9;");
        due("highest", y.count(20) * 1000 + y.count(21) * 100 + y.count(22) * 10 + y.count(23), 9999);
        EbbIsland z = of("fog 0 0 0 1;");
        due("lowest", z.count(20) * 1000 + z.count(21) * 100 + z.count(22) * 10 + z.count(23), 1);
        faulty("fog 10 0 0 0;", 2, 4);
        faulty("fog 0 10 0 0;", 2, 6);
        faulty("fog 0 0 10 0;", 2, 8);
        faulty("fog 0 0 0 10;", 2, 10);
        faulty("fog 1 1 1;", 1, 9);
        faulty("fog 1 1 1 1 1;", 1, 12);
    }

    private static void longestText() {
        String rule = "water 0" + "+1*1/1".repeat(115) + "+2;";
        due("its length", rule.length(), 700);
        EbbIsland x = of(rule);
        due("the last part counts", x.water(0, 0), 20);
        due("all parts count", of("water 0-100" + "+1*1/1".repeat(114) + "+1;").water(0, 0), 15);
        String blanks = " ".repeat(693) + "wind 7;";
        due("its line at the end", of(blanks).count(5), 7);
        faulty(" ".repeat(694) + "wind 7", 1, 700);
        EbbIsland y = new EbbIsland();
        feed(y, blanks);
        due("no more come", y.feed(0, 0, 0, 0, 0), NONE);
        illegal("no longer text", () -> y.island(701));
        due("all of it", y.island(700), 0);
    }

    private static void words() {
        holds("wind9;walk1 1 1 1;ebb\n3;");
        faulty("windy 9;", 1, 0);
        faulty("win d 9;", 1, 0);
        faulty("windwait 9;", 1, 0);
        faulty("win", 1, 0);
        faulty("Wind 9;", 1, 0);
        faulty("winD 9;", 1, 0);
        faulty("`wind 9;", 1, 0);
        faulty("wind{ 9;", 1, 4);
        faulty("wind` 9;", 1, 4);
        faulty("wind_ 9;", 1, 4);
        faulty("wind 9;zzz;", 1, 7);
        faulty("wind 9;a;", 1, 7);
        for (String word : new String[] {"a", "z", "az", "za", "hourz", "houra", "zhour", "tickz"}) {
            faulty("water " + word + ";", 3, 6);
        }
        String[] lines = {"height 1 1 1;", "rock 1 1;", "ladder 1 1;", "quick 1 1;", "moves 1 1;", "wind 1;", "ebb 1;", "wait 1;",
            "walk 1 1 1 1;", "horse 1 1 1 1;", "stilts 1 1 1 1;", "run 1 1 1 1;", "fog 1 1 1 1;", "water 1;", "sands 3 1;"};
        for (String line : lines) {
            holds(line);
            spelledWrong("", line.substring(0, line.indexOf(' ')), line.substring(line.indexOf(' ')), 1);
        }
        spelledWrong("walk 1 1 1 1;walk 1 1 1 1;", "quarrel", " 0 1;", 1);
        for (String value : new String[] {"hour", "tick", "day", "wind"}) {
            holds("water " + value + ";");
            spelledWrong("water ", value, ";", 3);
        }
        spelledWrong("water ", "not", " 1;", 3);
        spelledWrong("water 1 ", "or", " 1;", 1);
        spelledWrong("water 1 ", "and", " 1;", 1);
    }

    /** A word of which one letter is another, lacks or is too much is another word. */
    private static void spelledWrong(String ahead, String word, String behind, int fault) {
        for (int i = 0; i < word.length(); i++) {
            faulty(ahead + word.substring(0, i) + "z" + word.substring(i + 1) + behind, fault, ahead.length());
            faulty(ahead + word.substring(0, i) + "z" + word.substring(i) + behind, fault, ahead.length());
            faulty(ahead + word.substring(0, i) + word.substring(i + 1) + behind, fault, ahead.length());
        }
        faulty(ahead + word + "z" + behind, fault, ahead.length());
    }

    private static void digits() {
        due("four digits", of("wind 0009;").count(5), 9);
        faulty("wind 00009;", 2, 5);
        worth("9999/500", 19);
        worth("0000", 0);
        worth("0019", 19);
        faulty("water 10000;", 2, 6);
        faulty("wind 9:;", 1, 6);
        faulty("wind :;", 1, 5);
        faulty("wind 1.0;", 1, 6);
        faulty("wait 1 2;", 1, 7);
        due("one number", of("wait 12;").count(7), 12);
        faulty("wind 1e0;", 1, 6);
    }

    private static void signs() {
        for (String sign : new String[] {";", "(", ")", "+", "-", "*", "/", "<", "="}) {
            faulty(sign, 1, 0);
            faulty("wind " + sign, 1, 5);
        }
        for (String sign : new String[] {">", ",", "!", "%", "&", "|", "[", "]", "{", "}", ":", "'", "\"", ".", "^", "~"}) {
            faulty("water 1" + sign + "1;", 1, 7);
        }
        worth("(((1+4)*2-1)/3<4)=1", 1);
    }

    private static void blanks() {
        holds("");
        holds(" ");
        holds("\n \n");
        due("around each token", of(" \nwind\n\n 7 \n;\n").count(5), 7);
        due("none between", of("sands3 1;wind7;moves-1-2;").count(4), -2);
        for (char c : new char[] {0, 1, 9, 11, 12, 13, 31, 33, 127, 128, 133, 160, 255}) {
            faulty("wind" + c + "7;", 1, 4);
            faulty("wind 7;" + c, 1, 7);
        }
        faulty("sands 31;", 2, 6);
        faulty("wi nd 7;", 1, 0);
    }

    private static void emptyTexts() {
        EbbIsland x = of("sands 3 1;walk 1 1 0 0;");
        feed(x, "sands 9 7;");
        due("no byte of the tape", x.island(0), 0);
        due("all as without", x.count(0) * 100 + x.count(1) * 10 + x.count(8), 640);
        due("sands alone", of("sands 4 2;").count(0), 4);
        due("lines alone", of("ebb 3;").count(6), 3);
        faulty("sands 4 2", 1, 9);
        faulty("sands 4;", 1, 7);
        faulty("sands;", 1, 5);
    }

    /** A line with a number too few or too many, or with something else in place of one. */
    private static void numbersOfLines() {
        String[] lines = {"height 1 1 1", "rock 1 1", "ladder 1 1", "quick 1 1", "moves 1 1", "wind 1", "ebb 1", "wait 1",
            "walk 1 1 1 1", "horse 1 1 1 1", "stilts 1 1 1 1", "run 1 1 1 1", "quarrel 0 1", "fog 1 1 1 1", "sands 3 1"};
        for (String line : lines) {
            String ahead = line.startsWith("quarrel") ? "walk 1 1 1 1;walk 1 1 1 1;" : "";
            int length = ahead.length() + line.length();
            holds(ahead + line + ";");
            faulty(ahead + line, 1, length);
            faulty(ahead + line + " 1;", 1, length + 1);
            faulty(ahead + line + " " + line + ";", 1, length + 1);
            faulty(ahead + line.substring(0, line.length() - 2) + ";", 1, length - 2);
            for (int i = line.indexOf(' ') + 1; i < line.length(); i += 2) {
                for (String other : new String[] {"one", ";", "(1)", "+1", "#"}) {
                    faulty(ahead + line.substring(0, i) + other + line.substring(i + 1) + ";", 1, ahead.length() + i);
                }
            }
        }
    }

    private static void signed() {
        due("-0", of("moves -0 0;").count(3), 0);
        due("- 2", of("moves 0 -\n2;").count(4), -2);
        due("0002", of("moves 0002 -0002;").count(4), -2);
        faulty("moves --1 0;", 1, 7);
        faulty("moves +1 0;", 1, 6);
        faulty("moves - ;", 1, 8);
        faulty("moves 1 -", 1, 9);
        faulty("moves 1;", 1, 7);
        faulty("moves 1 1 1;", 1, 10);
    }

    private static void orAnd() {
        worth("0 or 0 or 0", 0);
        worth("0 or 0 or 1", 1);
        worth("1 and 1 and 0", 0);
        worth("1 and 1 and 1", 1);
        worth("1 or 1 and 0", 1);
        worth("0 and 1 or 1", 1);
        worth("0 and (1 or 1)", 0);
        faulty("water 1 or;", 1, 10);
        faulty("water 1 and", 1, 11);
    }

    private static void nots() {
        worth("not 0", 1);
        worth("not not 3", 1);
        worth("not 1<0", 1);
        worth("not 0=1 and 1", 1);
        worth("not 1 or 1", 1);
        worth("(not 0)*7", 7);
        worth("not 0*7", 1);
        worth("not 1+1", 0);
        faulty("water 1<2<3;", 1, 9);
        faulty("water 1=1=1;", 1, 9);
        faulty("water 1<2=1;", 1, 9);
        faulty("water (1<2<3);", 1, 10);
        faulty("water (((((1<2=3)))));", 1, 14);
        faulty("water (1<2)<(1=2)<1;", 1, 17);
        worth("(1<2)<((1<2)+(1<2))", 1);
        worth("(1<2)=1", 1);
        worth("1<2 and 2<3", 1);
        worth("1<2 or 3<2", 1);
        worth("1=(0<(2<3))", 1);
        faulty("water not;", 1, 9);
    }

    private static void sums() {
        worth("2+3*4", 14);
        worth("2*3+4", 10);
        worth("20-6/2", 17);
        worth("1+1<1+2", 1);
        worth("2*2=8/2", 1);
        faulty("water 1+;", 1, 8);
        faulty("water 1++1;", 1, 8);
        faulty("water 1-*1;", 1, 8);
        faulty("water +1;", 1, 6);
        faulty("water -1;", 1, 6);
    }

    private static void parts() {
        worth("7", 7);
        worth("wind", 6);
        worth("(7)", 7);
        worth("(((((7)))))", 7);
        faulty("water ();", 1, 7);
        faulty("water (1;", 1, 8);
        faulty("water 1);", 1, 7);
        faulty("water (1));", 1, 9);
        faulty("water (1)(1);", 1, 9);
        faulty("water ;", 1, 6);
    }

    private static void fromTheLeft() {
        worth("20-3-4", 13);
        worth("20-3+4", 20);
        worth("15-3+4", 16);
        worth("100/7/2", 7);
        worth("7/2*2", 6);
        worth("3*7/2", 10);
        worth("20-(3-4)-5", 16);
    }

    /** Powers of 256 come to both ends of the ints: 128 of them is the least one, and that less 1 the greatest. */
    private static void wrap() {
        worth("128*256*256*256<0", 1);
        worth("0<128*256*256*256-1", 1);
        worth("127*256*256*256<0", 0);
        worth("256*256*256*256", 0);
        worth("256*256*256*256+4", 4);
        worth("(128*256*256*256-1+1)<0", 1);
        worth("(0-128*256*256*256)<0", 1);
        worth("128*256*256*256=0-128*256*256*256", 1);
        worth("9999*9999*9999<0", 1);
    }

    private static void cutDown() {
        worth("7/2", 3);
        worth("1/2", 0);
        worth("(0-7)/2+9", 6);
        worth("7/(0-2)+9", 6);
        worth("(0-1)/2+9", 9);
        worth("(0-7)/(0-2)", 3);
        worth("128*256*256*256/(0-1)<0", 1);
    }

    private static void byNothing() {
        worth("7/0", 0);
        worth("0/0", 0);
        worth("(0-7)/0", 0);
        worth("7/0+5", 5);
        worth("7/(wind-6)+5", 5);
        worth("9/0/0", 0);
    }

    private static void whatHolds() {
        worth("5 and 7", 1);
        worth("0 or 5", 1);
        worth("(0-1) and (0-1)", 1);
        worth("0 or (0-1)", 1);
        worth("not (0-1)", 0);
        worth("not 5", 0);
        worth("(2<3)+(3=3)", 2);
        worth("(3<3)+(2=3)+(3<2)", 0);
        worth("(0-1)<0", 1);
        worth("256*256*256*256 or 0", 0);
    }

    private static void values() {
        worth("hour", 0, 0, 0);
        worth("hour", 0, 3, 0);
        worth("hour", 0, 4, 1);
        worth("hour-10", 0, 95, 13);
        worth("tick", 0, 0, 0);
        worth("tick-80", 0, 95, 15);
        worth("day", 0, 0, 0);
        worth("day-30", 40, 0, 10);
        worth("wind", 0, 0, 6);
        due("wind without", of("water wind+3;").water(0, 0), 3);
        due("the highest wind, told behind", of("water wind;wind 9;").water(0, 0), 9);
        faulty("water hours;", 3, 6);
        faulty("water ticks;", 3, 6);
    }

    private static void firstFault() {
        faulty("wind 10;ebb 0;", 2, 5);
        faulty("ebb 1;ebb 1;x", 5, 6);
        faulty("rock 0 1;x", 4, 7);
        faulty("water y;x", 3, 6);
        faulty("wind 10x", 2, 5);
        faulty("x wind 10;", 1, 0);
        faulty("rock 0 1 12345", 4, 7);
    }

    private static void firstByte() {
        faulty("wind \n  10;", 2, 8);
        faulty("   windy 1;", 1, 3);
        faulty("rock 1 1;  rock  1  1;", 4, 20);
        faulty("ebb 1;\n\nebb 1;", 5, 8);
        faulty("water 1 + minute;", 3, 10);
        faulty("moves -  2  -\n 3;", 2, 15);
    }

    private static void leastFault() {
        faulty("wind 1 12345;", 1, 7);
        faulty("water 1 12345;", 1, 8);
        faulty("12345", 1, 0);
        faulty("water ((((((or", 2, 12);
        faulty("quarrel 10000 0;", 2, 8);
        faulty("walk 1 1 1 1;quarrel 0 10000;", 2, 23);
        faulty("rock 0 4;", 2, 7);
        faulty("sands 9 7;" + marks("rock", 12, 1) + "rock 1 0;", 2, 118);
    }

    private static void cannotStand() {
        faulty(";", 1, 0);
        faulty("wind 1;;", 1, 7);
        faulty("wind wind;", 1, 5);
        faulty("wind 1 wind 2;", 1, 7);
        faulty("walk 1 1 1;", 1, 10);
        faulty("walk 1 1 1 1 1;", 1, 13);
        faulty("rock 1;", 1, 6);
        faulty("height 1 1;", 1, 10);
        faulty("quarrel a b;", 1, 8);
        faulty("water 1 not 1;", 1, 8);
        faulty("water 1 hour;", 1, 8);
        faulty("water 1 sands;", 1, 8);
        faulty("or 1;", 1, 0);
        faulty("hour 1;", 1, 0);
    }

    private static void noToken() {
        faulty("#", 1, 0);
        faulty("wind #", 1, 5);
        faulty("water #", 1, 6);
        faulty("water 1#", 1, 7);
        faulty("water (1#", 1, 8);
        faulty("moves -#", 1, 7);
        faulty("" + (char) 255, 1, 0);
        faulty("" + (char) 0, 1, 0);
        faulty("wind 1;\u00e9", 1, 7);
    }

    /** A text that is cut behind any of its bytes ends too soon, but behind a line; bytes behind it aren't read. */
    private static void endsTooSoon() {
        String text = "sands 9 7;height 1 1 1;rock 1 1;ladder 2 2;quick 1 1;moves -1 -2;wind 1;ebb 1;wait 1;"
                + "walk 1 1 1 1;run 1 1 1 1;quarrel 0 1;fog 1 1 1 1;water (not 1 or 2);";
        for (int n = 1; n <= text.length(); n++) {
            boolean midWord = text.charAt(n - 1) >= 'a' && n < text.length() && text.charAt(n) >= 'a';
            if (!midWord) {
                EbbIsland x = new EbbIsland();
                feed(x, text);
                boolean whole = text.charAt(n - 1) == ';';
                due("the first " + n, x.island(n), whole ? 0 : 1);
                due("the place by " + n, x.fault(), whole ? NONE : n);
            }
        }
        faulty("wind 1 \n ", 1, 9);
        faulty("water (1 ", 1, 9);
    }

    private static void sandsLater() {
        faulty("sands 4 4;sands 4 4;", 1, 10);
        faulty("wind 1;sands 4 4;", 1, 7);
        faulty(";sands 4 4;", 1, 0);
        holds(" \nsands 4 4;");
    }

    private static void fiveDigits() {
        faulty("sands 00003 1;", 2, 6);
        faulty("sands 3 00001;", 2, 8);
        faulty("wind 00001;", 2, 5);
        faulty("wait 123456;", 2, 5);
        faulty("wait 99999999999999999999;", 2, 5);
        faulty("wait 4294967296;", 2, 5);
        faulty("moves 00000 0;", 2, 6);
        faulty("height 1 1 00001;", 2, 11);
        faulty("water 00001;", 2, 6);
        faulty("water 1+4294967297;", 2, 8);
        holds("wait 0001;water 0001;");
    }

    private static void notInAnExpr() {
        holds("water 9999*9999;");
        holds("wind 9;water 10+21+9999;");
        faulty("wind 9999;", 2, 5);
    }

    private static void signedTooMuch() {
        faulty("moves 3 0;", 2, 6);
        faulty("moves -3 0;", 2, 7);
        faulty("moves 0 - 3;", 2, 10);
        faulty("moves -\n9999 0;", 2, 8);
        faulty("moves -00001 0;", 2, 7);
    }

    private static void outside() {
        for (String word : new String[] {"height", "rock", "ladder", "quick"}) {
            int x = word.length() + 1;
            faulty(word + " 6 0 1;", 2, x);
            faulty(word + " 1 4 1;", 2, x + 2);
            faulty("sands 3 1;" + word + " 3 0 1;", 2, 10 + x);
            faulty("sands 3 1;" + word + " 1 1 1;", 2, 12 + x);
            faulty("sands 9 7;" + word + " 9 0 1;", 2, 10 + x);
            faulty("sands 9 7;" + word + " 1 7 1;", 2, 12 + x);
        }
        holds("sands 9 7;height 8 6 1;quick 8 6;rock 7 6;ladder 7 0;");
    }

    private static void noWeight() {
        faulty("fog 0 0 0 0;", 2, 10);
        faulty("fog 00 000 0 0000;", 2, 13);
        faulty("fog 0 0 0;", 1, 9);
        holds("fog 0 0 0 1;");
        holds("fog 1 0 0 0;");
    }

    private static void oneTooMany() {
        for (String word : new String[] {"rock", "ladder", "quick"}) {
            String twelve = "sands 9 7;" + marks(word, 12, 1);
            holds(twelve);
            faulty(twelve + " " + word, 2, twelve.length() + 1);
            faulty(twelve + word + " 9 9;", 2, twelve.length());
        }
        for (String kind : KINDS) {
            faulty(SIX + "\n" + kind, 2, SIX.length() + 1);
        }
        faulty(SIX + SIX_QUARRELS + " quarrel", 2, SIX.length() + SIX_QUARRELS.length() + 1);
        faulty(SIX + SIX_QUARRELS + "quarrel 0 0;", 2, SIX.length() + SIX_QUARRELS.length());
    }

    private static void withinSix() {
        faulty("water (((((1+(2<3))))));", 2, 14);
        for (String first : new String[] {"1", "12345", "hour", "not", "or", "and", "minute", "sands", "("}) {
            faulty("water ((((((" + first, 2, 12);
            faulty("water 1+((((( (" + first, 2, 15);
        }
        for (String first : new String[] {"", ")", ";", "+", "-", "*", "/", "<", "=", "#"}) {
            faulty("water ((((((" + first, 1, 12);
        }
        faulty("water not ((((((1", 2, 16);
        faulty("water (1)+((((((1", 2, 16);
        faulty("water ((((((1))))));", 2, 12);
        worth("(((((7)))))+(((((8)))))", 15);
        worth("(((((7+1)+1)+1)+1)+1)", 12);
        worth("1+(1+(1+(1+(1+(1)))))", 6);
        // All that can wait for a part waits in each of the five parentheses.
        String waits = "0 or 1 and not not not not not not 0<0+1*";
        worth((waits + "(").repeat(5) + waits + "5" + ")".repeat(5), 1);
        worth((waits + "(").repeat(5) + waits + "0" + ")".repeat(5), 0);
    }

    private static void seventhNot() {
        String six = "not not not not not not ";
        worth(six + "5", 1);
        worth("not not not not not 5", 0);
        faulty("water " + six + "not 5;", 2, 30);
        faulty("water " + six + "\nnot 5;", 2, 31);
        worth(six + "(" + six + "5)", 1);
        worth(six + "5 and " + six + "5", 1);
        worth(six + "0 or " + six + "5", 1);
        worth("(" + six + "5)+(" + six + "5)", 2);
        faulty("water 1 and " + six + "not 5;", 2, 36);
        faulty("water (" + six + "not 5);", 2, 31);
        faulty("water " + six + ";", 1, 30);
    }

    private static void noValue() {
        for (String word : new String[] {"or", "and", "x", "sand", "rock", "water", "hours", "da"}) {
            faulty("water " + word + ";", 3, 6);
            faulty("water (" + word, 3, 7);
            faulty("water not " + word, 3, 10);
            faulty("water 1 or " + word, 3, 11);
        }
        for (String sign : new String[] {"+", "-", "*", "/", "<", "="}) {
            faulty("water 1" + sign + "not 1;", 3, 8);
            faulty("water 1" + sign + "or;", 3, 8);
        }
        faulty("water (1*not 1);", 3, 9);
        holds("water 1*(not 1);");
    }

    private static void notTold() {
        faulty("quarrel 0 1;", 3, 8);
        faulty("walk 1 1 1 1;quarrel 0 1;walk 1 1 1 1;", 3, 23);
        faulty("walk 1 1 1 1;walk 1 1 1 1;quarrel 2 0;", 3, 34);
        faulty(SIX + "quarrel 6 0;", 3, SIX.length() + 8);
        faulty(SIX + "quarrel 5 9999;", 3, SIX.length() + 10);
        holds(SIX + "quarrel 5 0;");
        holds("walk 1 1 1 1;walk 1 1 1 1;quarrel 0 1;");
    }

    private static void heightTwice() {
        faulty("height 1 2 3;height 1 2 3;", 4, 22);
        faulty("height 1 2 3;height 1 2 12;", 4, 22);
        faulty("height 0 0 4;height 0 0 5;", 4, 22);
        faulty("sands 9 7;height 8 6 4;height 8 6 5;", 4, 32);
        faulty("height 1 2 3;height 2 1 3;height 0 0 1;height 1 2 3;", 4, 48);
        holds("height 1 2 3;height 2 1 3;rock 1 2;quick 1 2;");
        holds("rock 1 2;quick 1 2;height 1 2 3;");
    }

    private static void quickTwice() {
        faulty("quick 1 2;quick 1 2;", 4, 18);
        faulty("quick 0 0;quick 1 2;quick 0 0;", 4, 28);
        faulty("sands 9 7;quick 8 6;quick 8 6;", 4, 28);
        holds("quick 1 2;quick 2 1;");
        holds("height 1 2 3;ladder 1 2;quick 1 2;");
    }

    private static void quarrelWithItself() {
        faulty("walk 1 1 1 1;quarrel 0 0;", 4, 23);
        faulty(SIX + "quarrel 5 5;", 4, SIX.length() + 10);
        faulty(SIX + "quarrel 5 0005;", 4, SIX.length() + 10);
    }

    private static void quarrelTwice() {
        String two = "walk 1 1 1 1;walk 1 1 1 1;quarrel 0 1;";
        faulty(two + "quarrel 0 1;", 4, two.length() + 10);
        faulty(two + "quarrel 1 0;", 4, two.length() + 10);
        faulty(SIX + "quarrel 5 4;quarrel 4 5;", 4, SIX.length() + 22);
        faulty(SIX + "quarrel 0 1;quarrel 0 2;quarrel 3 0;quarrel 1 0;", 4, SIX.length() + 46);
    }

    private static void second() {
        String[] lines = {"moves 1 1;", "wind 1;", "ebb 1;", "wait 1;", "fog 1 1 1 1;", "water 1;"};
        StringBuilder all = new StringBuilder();
        for (String line : lines) {
            String word = line.substring(0, line.indexOf(' '));
            faulty(line + line, 5, line.length());
            faulty(line + " " + word, 5, line.length() + 1);
            faulty(line + word + "12345", 5, line.length());
            all.append(line);
        }
        holds(all.toString());
        for (String line : lines) {
            faulty(all + line, 5, all.length());
        }
        due("a wind in a rule is no second one", of("water wind;wind 4;").water(0, 0), 4);
        holds("walk 1 1 1 1;walk 1 1 1 1;rock 1 1;rock 1 2;");
    }
}
