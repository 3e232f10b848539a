import java.io.IOException;

/** Promises 6 to 18 and 50 to 52, part 2 of "Terms": every sentence that names a boundary has a test of its own. */
public final class EdgesOfActsTest {
    private static final String T = "Terms 2";
    private static final int NO = -1000000000;
    private static final int LOW = Sentences.LOW;
    private static final int HIGH = Sentences.HIGH;
    private static final String P = "word a moves 20 tires 6;comer p road 0 says a;";
    private static Sentences s;

    // ---- helpers

    /** Two rows on three roads: p and q, r; d is said by nobody. At first p and r would be let by. */
    private static HatchLights rows() {
        return s.told("roads 3;word a moves 10 tires 4;word b moves 3;word c moves 0 tires 2;word d moves 7 tires 3;"
                + "comer p road 0 says a;comer q road 0 says b;comer r road 1 says a b;draw 7;");
    }

    /** Eight comers and eight words, all of whom say the last four. */
    private static HatchLights full() {
        StringBuilder text = new StringBuilder();
        for (int i = 0; i < 8; i++) {
            text.append("word ").append((char) ('a' + i)).append(" moves 99 tires 99;");
        }
        for (int i = 0; i < 8; i++) {
            text.append("comer ").append((char) ('a' + i)).append(" road 3 says h g f e;");
        }
        return s.told(text.toString());
    }

    /** Two who are both by at once. */
    private static HatchLights allBy() {
        HatchLights x = s.told("roads 2;word a moves 1;comer p road 0 says a;comer q road 1 says a;worth 1;");
        x.hatch();
        x.hatch();
        return x;
    }

    private static int worthBy(String formula) {
        return s.told("roads 2;word a moves 10;word b moves 7;comer p road 1 says a b;worth " + formula + ";").worth(0);
    }

    private static int keepsBy(String formula) {
        return s.told(P + "keeps " + formula + ";").keeps(0);
    }

    private static void worthIs(String formula, int due) {
        s.is("worth of " + formula, worthBy(formula), due);
    }

    /** What about() answers from 3 on. */
    private static void state(HatchLights x, String when, int... due) {
        for (int i = 0; i < due.length; i++) {
            s.is(when + " about(" + (3 + i) + ")", x.about(3 + i), due[i]);
        }
    }

    private static void place(HatchLights x, int comer, int road, int place) {
        s.is("comer(" + comer + ", 0)", x.comer(comer, 0), road);
        s.is("comer(" + comer + ", 1)", x.comer(comer, 1), place);
    }

    private static int hatches(HatchLights x, int many) {
        int last = -1;
        for (int i = 0; i < many; i++) {
            last = x.hatch();
        }
        return last;
    }

    // ---- Terms 2: what worth and keeps come of

    private static void atFirst() {
        s.hold(T, "A WORD has its MOVES (as told, at first).", () -> {
            HatchLights x = s.told("word a moves 0;word b moves 99 tires 99;");
            s.is("word(0, 0)", x.word(0, 0), 0);
            s.is("word(1, 0)", x.word(1, 0), 99);
        });
        s.hold(T, "A COMER is in the row of his ROAD (as told, one behind the other, at first), or BY", () -> {
            HatchLights x = s.told("word a moves 50;comer p road 3 says a;comer q road 0 says a;comer r road 3 says a;comer t road 3 says a;");
            place(x, 0, 3, 0);
            place(x, 1, 0, 0);
            place(x, 2, 3, 1);
            place(x, 3, 3, 2);
            x.open(3);
            place(x, 0, -1, -1);
            place(x, 2, 3, 0);
        });
        s.hold(T, "he WAITED so many HATCHES (0 at first)", () -> {
            HatchLights x = rows();
            for (int comer = 0; comer < 3; comer++) {
                s.is("comer(.., 3)", x.comer(comer, 3), 0);
            }
        });
    }

    private static void facts() {
        s.hold(T, "what comes of worth (moved - 9, if it is not told)", () -> {
            int[] moves = {0, 8, 9, 10, 99};
            for (int m : moves) {
                s.is("worth(0)", s.told("word a moves " + m + ";comer p road 0 says a;").worth(0), m - 9);
            }
            s.is("worth(0)", s.told("word a moves 5;comer p road 0 says a;worth 3;").worth(0), 3);
        });
        s.hold(T, "moved (MOVES of its WORDS together)", () -> {
            HatchLights x = s.told("word a moves 0;word b moves 99;word c moves 99;word d moves 99;word e moves 99;"
                    + "comer p road 0 says b c d e;comer q road 0 says a;worth moved;");
            s.is("worth(0)", x.worth(0), 396);
            s.is("worth(1)", x.worth(1), 0);
        });
        s.hold(T, "many (how many WORDS)", () -> {
            HatchLights x = s.told("word a moves 0;word b moves 0;word c moves 0;word d moves 0;"
                    + "comer p road 0 says b c d a;comer q road 0 says d;worth many;");
            s.is("worth(0)", x.worth(0), 4);
            s.is("worth(1)", x.worth(1), 1);
        });
        s.hold(T, "waited (how often he WAITED)", () -> {
            HatchLights x = s.told(P + "worth 0-waited;");
            s.is("worth(0)", x.worth(0), 0);
            hatches(x, 3);
            s.is("worth(0)", x.worth(0), -3);
        });
        s.hold(T, "behind (how many are behind him in his row)", () -> {
            HatchLights x = s.told("word a moves 1;comer p road 1 says a;comer q road 1 says a;comer r road 1 says a;"
                    + "comer t road 2 says a;worth behind;");
            int[] due = {2, 1, 0, 0};
            for (int comer = 0; comer < 4; comer++) {
                s.is("worth(" + comer + ")", x.worth(comer), due[comer]);
            }
            x.turn(0, 2);
            int[] then = {0, 1, 0, 1};
            for (int comer = 0; comer < 4; comer++) {
                s.is("worth(" + comer + ") then", x.worth(comer), then[comer]);
            }
        });
        s.hold(T, "mood (the MOOD, as told at first)", () -> {
            HatchLights x = s.told(P + "mood 0;worth 0-mood;");
            s.is("worth(0)", x.worth(0), 0);
            x.humour(99);
            s.is("worth(0) then", x.worth(0), -99);
            x.hatch();
            s.is("worth(0) behind a hatch", x.worth(0), -98);
            s.is("worth(0), not told", s.told(P + "worth mood;").worth(0), 50);
        });
        s.hold(T, "hatch (0 at first;", () -> {
            HatchLights x = s.told(P + "worth 0-hatch;");
            s.is("worth(0)", x.worth(0), 0);
            hatches(x, 2);
            s.is("worth(0) then", x.worth(0), -2);
        });
    }

    private static void arithmetic() {
        s.hold(T, "ints, wrapping", () -> {
            worthIs("9999*9999*9999", 9999 * 9999 * 9999);
            worthIs("8192*8192*32", LOW);
            worthIs("8192*8192*32-1", HIGH);
            worthIs("8192*8192*32-1+1", LOW);
            worthIs("0-8192*8192*32", LOW);
            worthIs("8192*8192*64", 0);
        });
        s.hold(T, "/ cut, % its rest", () -> {
            worthIs("7/2", 3);
            worthIs("(0-7)/2", -3);
            worthIs("7/(0-2)", -3);
            worthIs("(0-7)/(0-2)", 3);
            worthIs("1/2", 0);
            worthIs("(0-1)/2", 0);
            worthIs("7%2", 1);
            worthIs("(0-7)%2", -1);
            worthIs("7%(0-2)", 1);
            worthIs("(0-7)%(0-2)", -1);
            worthIs("8192*8192*32/(0-1)", LOW);
            worthIs("8192*8192*32%(0-1)", 0);
        });
        s.hold(T, "both by 0: 0", () -> {
            worthIs("7/0", 0);
            worthIs("7%0", 0);
            worthIs("0/0", 0);
            worthIs("0%0", 0);
            worthIs("5+7/(many-2)", 5);
            worthIs("5+7%(many-2)", 5);
            s.is("keeps of 7/0", keepsBy("3+7/0"), 3);
        });
        s.hold(T, "relations, and, or, not are 1 or 0, of what is not 0", () -> {
            String[] ones = {"1<2", "0-1<0", "2>1", "0>0-1", "2=2", "7 and 5", "(0-1) and 2", "0 or 7", "7 or 0", "(0-3) or 0", "7 or 7", "not 0",
                "not not 7", "not not (0-1)", "1<2 and 2<3", "1 or 0 and 0", "not 1 and 0 or 1", "not 1 + 1 = 3", "not 2 = 1"};
            String[] noughts = {"2<2", "3<2", "2>2", "1>2", "2=1", "7 and 0", "0 and 7", "0 and 0", "0 or 0", "not 1", "not 7", "not (0-1)",
                "not not 0", "(1 or 0) and 0", "not (1 and 1)", "not 2 = 2", "not 0 and 0"};
            for (String e : ones) {
                worthIs(e, 1);
            }
            for (String e : noughts) {
                worthIs(e, 0);
            }
            worthIs("(3>2)+(3>2)*5", 6);
            worthIs("2+3*4-10/5%2", 14);
            worthIs("20-3-4", 13);
            worthIs("100/5/2", 10);
        });
        s.hold(T, "KEEPS: what comes of keeps (5 times many, if it is not told) by the same", () -> {
            HatchLights x = s.told("word a moves 1;word b moves 1;word c moves 1;word d moves 1;comer p road 0 says a b c d;comer q road 1 says d;");
            s.is("keeps(0)", x.keeps(0), 20);
            s.is("keeps(1)", x.keeps(1), 5);
            HatchLights y = s.told("word a moves 7;comer p road 0 says a;comer q road 0 says a;mood 3;keeps moved*100+many*50+waited*30+behind*20+mood+hatch*10;");
            s.is("keeps(0)", y.keeps(0), 773);
            y.open(3);
            s.is("keeps(0) then", y.keeps(0), 813);
        });
        s.hold(T, "0 at least, 999 at most", () -> {
            String[] e = {"0", "1", "0-1", "0-9999*9999", "8192*8192*32", "998", "999", "1000", "9999", "8192*8192*32-1"};
            int[] due = {0, 1, 0, 0, 0, 998, 999, 999, 999, 999};
            for (int i = 0; i < e.length; i++) {
                s.is("keeps(0) of " + e[i], keepsBy(e[i]), due[i]);
                HatchLights x = s.told(P + "keeps " + e[i] + ";");
                x.hatch();
                s.is("minutes by " + e[i], x.about(5), due[i]);
            }
        });
    }

    // ---- Terms 2: a hatch

    private static void heard() {
        s.hold(T, "A HATCH opens to a ROAD: the first of its row is HEARD (nobody, if there is none)", () -> {
            HatchLights x = s.told("roads 2;word a moves 50 tires 1;word b moves 50 tires 2;comer p road 1 says a;comer q road 1 says b;");
            s.is("open(0)", x.open(0), -1);
            s.is("word(0, 0)", x.word(0, 0), 50);
            s.is("open(1)", x.open(1), 0);
            s.is("word(0, 0)", x.word(0, 0), 49);
            s.is("word(1, 0)", x.word(1, 0), 50);
            s.is("open(1)", x.open(1), 1);
            s.is("open(1) of an empty row", x.open(1), -1);
        });
        s.hold(T, "as many minutes go by as it KEEPS (0 for nobody; 0 at first)", () -> {
            HatchLights x = s.told("roads 2;word a moves 50;comer p road 0 says a;comer q road 0 says a;keeps 7+behind;worth behind;");
            s.is("about(5) at first", x.about(5), 0);
            x.open(0);
            s.is("about(5), let by", x.about(5), 8);
            x.open(1);
            s.is("about(5), nobody", x.about(5), 8);
            x.open(0);
            s.is("about(5), not let by", x.about(5), 15);
        });
        s.hold(T, "he is BY, if the WORTH of his REASON is above 0, and it is no WHIM", () -> {
            s.is("hatch() of worth 1", s.told(P + "worth 1;").hatch(), 0);
            s.is("hatch() of worth 0", s.told(P + "worth 0;").hatch(), -1);
            s.is("hatch() of worth -1", s.told(P + "worth 0-1;").hatch(), -1);
            s.is("hatch() of the highest worth", s.told(P + "worth 8192*8192*32-1;").hatch(), 0);
            s.is("hatch() of the lowest worth", s.told(P + "worth 8192*8192*32;").hatch(), -1);
            s.is("hatch() by a whim", s.told(P + "worth 1;whim 100;").hatch(), -1);
            s.is("hatch() of moved 9", s.told("word a moves 9;comer p road 0 says a;").hatch(), -1);
            s.is("hatch() of moved 10", s.told("word a moves 10;comer p road 0 says a;").hatch(), 0);
        });
        s.hold(T, "else he goes behind his row", () -> {
            HatchLights x = s.told("roads 2;word a moves 1;comer p road 0 says a;comer q road 0 says a;comer r road 0 says a;comer t road 1 says a;");
            x.open(0);
            place(x, 1, 0, 0);
            place(x, 2, 0, 1);
            place(x, 0, 0, 2);
            x.open(0);
            place(x, 2, 0, 0);
            place(x, 0, 0, 1);
            place(x, 1, 0, 2);
            x.open(1);
            place(x, 3, 1, 0);
            s.is("row(0)", x.row(0), 3);
            s.is("row(1)", x.row(1), 1);
            HatchLights whim = s.told("roads 1;word a moves 50;comer p road 0 says a;comer q road 0 says a;whim 100;");
            whim.hatch();
            place(whim, 0, 0, 1);
            place(whim, 1, 0, 0);
        });
        s.hold(T, "MOVES of each WORD of his are less by what it tires (0 at least)", () -> {
            HatchLights x = s.told("roads 1;word a moves 5 tires 5;word b moves 4 tires 5;word c moves 6 tires 5;word d moves 7;word e moves 8 tires 3;"
                    + "comer p road 0 says a b c d;worth 0;");
            int[][] due = {{0, 0, 1, 7, 8}, {0, 0, 0, 7, 8}};
            for (int[] moves : due) {
                x.hatch();
                for (int word = 0; word < 5; word++) {
                    s.is("word(" + word + ", 0)", x.word(word, 0), moves[word]);
                }
            }
            HatchLights by = s.told(P);
            by.hatch();
            s.is("word(0, 0), let by", by.word(0, 0), 14);
            HatchLights whim = s.told(P + "whim 100;");
            whim.hatch();
            s.is("word(0, 0), by a whim", whim.word(0, 0), 14);
        });
        s.hold(T, "the MOOD is 1 more (99 at most), if he is BY", () -> {
            HatchLights x = s.told("roads 1;word a moves 1;comer p road 0 says a;comer q road 0 says a;mood 98;worth 1;");
            x.hatch();
            s.is("about(4)", x.about(4), 99);
            x.hatch();
            s.is("about(4) at most", x.about(4), 99);
        });
        s.hold(T, "else, if somebody was HEARD, 1 less (0 at least)", () -> {
            HatchLights x = s.told("roads 2;word a moves 1;comer p road 0 says a;mood 2;worth 0;");
            int[] due = {1, 1, 0, 0, 0};
            for (int mood : due) {
                x.hatch();
                s.is("about(4)", x.about(4), mood);
            }
            HatchLights whim = s.told(P + "whim 100;");
            whim.hatch();
            s.is("about(4), by a whim", whim.about(4), 49);
            HatchLights none = s.told("mood 99;");
            hatches(none, 5);
            s.is("about(4), nobody", none.about(4), 99);
        });
        s.hold(T, "all by what is so ahead of this", () -> {
            HatchLights x = s.told(P + "worth (mood=50) and (moved=20) and (waited=0) and (hatch=0) and (behind=0);keeps moved+mood+waited+hatch+behind;");
            s.is("hatch()", x.hatch(), 0);
            s.is("about(5)", x.about(5), 70);
            HatchLights y = s.told("roads 1;" + P + "worth moved=14 and mood=49 and waited=1 and hatch=1;keeps moved+mood+waited+hatch;");
            s.is("hatch()", y.hatch(), -1);
            s.is("about(5)", y.about(5), 70);
            s.is("hatch()", y.hatch(), 0);
            s.is("about(5)", y.about(5), 135);
        });
    }

    private static void goesOn() {
        s.hold(T, "each other one who is not BY WAITED once more (he who was HEARD and is not BY, too; 999 at most)", () -> {
            HatchLights x = s.told("roads 2;word a moves 50;word b moves 1;comer p road 0 says a;comer q road 0 says b;comer r road 1 says b;");
            x.open(0);
            int[][] due = {{0, 1, 1}, {0, 2, 2}, {0, 3, 3}};
            for (int comer = 0; comer < 3; comer++) {
                s.is("p let by: comer(" + comer + ", 3)", x.comer(comer, 3), due[0][comer]);
            }
            x.open(0);
            for (int comer = 0; comer < 3; comer++) {
                s.is("q heard: comer(" + comer + ", 3)", x.comer(comer, 3), due[1][comer]);
            }
            x.turn(2, 0);
            x.open(1);
            for (int comer = 0; comer < 3; comer++) {
                s.is("nobody heard: comer(" + comer + ", 3)", x.comer(comer, 3), due[2][comer]);
            }
            // More calls than the document speaks of: there is no other way to 999.
            HatchLights y = s.told("roads 1;word a moves 1;comer p road 0 says a;worth waited>999;");
            hatches(y, 998);
            s.is("comer(0, 3)", y.comer(0, 3), 998);
            hatches(y, 1);
            s.is("comer(0, 3)", y.comer(0, 3), 999);
            s.is("when(0)", y.when(0), -1);
        });
        s.hold(T, "the hatch goes up by 1", () -> {
            HatchLights x = rows();
            x.hatch();
            s.is("about(6), let by", x.about(6), 1);
            x.open(0);
            s.is("about(6), not let by", x.about(6), 2);
            x.open(2);
            s.is("about(6), nobody", x.about(6), 3);
        });
        s.hold(T, "the next ROAD is at hand (ROAD 0 at first, behind the last one ROAD 0 again)", () -> {
            for (int roads = 1; roads <= 4; roads++) {
                HatchLights x = s.told("roads " + roads + ";");
                for (int i = 0; i < 9; i++) {
                    s.is("about(7)", x.about(7), i % roads);
                    x.hatch();
                }
            }
        });
        s.hold(T, "In earnest the SEED (draw, at first) becomes its 137-fold and 71 more, modulo 1,000, at each HATCH", () -> {
            int[] draws = {0, 1, 7, 999};
            int[][] due = {{71, 798}, {208, 567}, {30, 181}, {934, 29}};
            for (int i = 0; i < draws.length; i++) {
                HatchLights x = s.told(P + "draw " + draws[i] + ";");
                s.is("about(8) at first", x.about(8), draws[i]);
                x.hatch();
                s.is("about(8)", x.about(8), due[i][0]);
                x.open(2);
                s.is("about(8), nobody heard", x.about(8), due[i][1]);
                x.turn(0, 1);
                x.humour(1);
                x.will(60, 1);
                s.is("about(8), no hatch", x.about(8), due[i][1]);
            }
        });
        s.hold(T, "it is a WHIM, if its rest by 100 is less than whim tells", () -> {
            int[][] draws = {{17, 0}, {7, 30}, {999, 34}, {44, 99}};
            for (int[] draw : draws) {
                int rest = draw[1];
                s.is("hatch() of rest " + rest, s.told(P + "draw " + draw[0] + ";whim " + rest + ";").hatch(), 0);
                s.is("hatch() of rest " + rest, s.told(P + "draw " + draw[0] + ";whim " + (rest + 1) + ";").hatch(), -1);
            }
            s.is("hatch() of no whim told", s.told(P + "draw 17;").hatch(), 0);
        });
    }

    // ---- Terms 2: acts

    private static void manyCalls() {
        s.hold("Head", "An object is used for at most 512 calls after it has been made", () -> {
            HatchLights x = new HatchLights();
            for (int i = 0; i < 511; i++) {
                s.is("hatch() " + (i + 1), x.hatch(), -1);
            }
            s.is("about(6), the 512th call", x.about(6), 511);
        });
    }

    private static void acts() {
        s.hold(T, "ACTS: a HATCH to the ROAD at hand, or to another one (the one behind that is at hand then)", () -> {
            for (int roads = 1; roads <= 4; roads++) {
                HatchLights x = s.told("roads " + roads + ";");
                for (int road = 0; road < roads; road++) {
                    x.open(road);
                    s.is("about(7)", x.about(7), (road + 1) % roads);
                    s.is("about(9)", x.about(9), 2 * road + 1);
                    x.hatch();
                    s.is("about(7)", x.about(7), (road + 2) % roads);
                    s.is("about(9)", x.about(9), 2 * road + 2);
                }
            }
        });
        s.hold(T, "a REASON is rehearsed (told anew)", () -> {
            HatchLights x = rows();
            x.rehearse(0, 10);
            s.is("comer(0, 2)", x.comer(0, 2), 10);
            s.is("comer(0, 4)", x.comer(0, 4), 1);
            x.hatch();
            s.is("word(0, 0)", x.word(0, 0), 10);
            s.is("word(3, 0)", x.word(3, 0), 4);
        });
        s.hold(T, "a COMER takes another ROAD (behind its row)", () -> {
            HatchLights x = rows();
            x.turn(0, 1);
            place(x, 0, 1, 1);
            place(x, 1, 0, 0);
            place(x, 2, 1, 0);
            x.turn(0, 0);
            place(x, 0, 0, 1);
            place(x, 1, 0, 0);
        });
        s.hold(T, "a WORD has MOVES as told again", () -> {
            HatchLights x = rows();
            x.hatch();
            s.is("word(0, 0)", x.word(0, 0), 6);
            x.revive(0);
            s.is("word(0, 0)", x.word(0, 0), 10);
        });
        s.hold(T, "the MOOD is told anew", () -> {
            HatchLights x = rows();
            x.humour(98);
            x.hatch();
            s.is("about(4)", x.about(4), 99);
            x.open(0);
            s.is("about(4)", x.about(4), 98);
        });
        s.hold(T, "UNDO takes back the latest ACT that was not", () -> {
            HatchLights x = rows();
            int[] first = Sentences.look(x);
            x.hatch();
            int[] second = Sentences.look(x);
            x.humour(3);
            x.undo();
            int[] behind = Sentences.look(x);
            s.is("about(10)", behind[10], 1);
            behind[10] = 0;
            s.alike("undone once", behind, second);
            x.undo();
            behind = Sentences.look(x);
            s.is("about(10)", behind[10], 2);
            behind[10] = 0;
            s.alike("undone twice", behind, first);
        });
        s.hold(T, "REDO does that again which was taken back last (till another ACT)", () -> {
            HatchLights x = rows();
            x.humour(1);
            x.humour(2);
            x.humour(3);
            x.undo();
            x.undo();
            x.redo();
            s.is("about(4)", x.about(4), 2);
            s.is("humour(2), refused", x.humour(2), -1);
            s.is("open(9), refused", x.open(9), -2);
            x.image(0);
            x.soonest();
            s.is("about(10), no act", x.about(10), 1);
            x.revive(0);
            x.turn(0, 2);
            s.is("about(10), another act", x.about(10), 0);
            s.is("redo()", x.redo(), false);
            s.is("about(9)", x.about(9), 3);
        });
        s.hold(T, "40 at most are kept, the oldest go.", () -> {
            HatchLights x = new HatchLights();
            for (int mood = 0; mood < 40; mood++) {
                x.humour(mood);
                s.is("about(9)", x.about(9), mood + 1);
            }
            x.humour(40);
            s.is("about(9)", x.about(9), 40);
            for (int mood = 39; mood >= 0; mood--) {
                s.is("undo()", x.undo(), true);
                s.is("about(4)", x.about(4), mood);
            }
            s.is("undo() of the oldest", x.undo(), false);
            s.is("about(10)", x.about(10), 40);
            x.redo();
            x.humour(77);
            s.is("about(9)", x.about(9), 2);
            s.is("about(10)", x.about(10), 0);
            x.undo();
            x.undo();
            s.is("undo()", x.undo(), false);
            s.is("about(4)", x.about(4), 0);
            for (int i = 1; i <= 200; i++) {
                x.humour(i % 100);
            }
            for (int i = 199; i >= 160; i--) {
                s.is("undo() far on", x.undo(), true);
                s.is("about(4) far on", x.about(4), i % 100);
            }
            s.is("undo() far on", x.undo(), false);
            for (int i = 161; i <= 200; i++) {
                s.is("redo() far on", x.redo(), true);
                s.is("about(4) far on", x.about(4), i % 100);
            }
        });
    }

    // ---- promises 6 to 10

    private static void whatIsSo() {
        s.hold("Promise 6", "Of a WORD what 0: MOVES, 1: what it tires", () -> {
            HatchLights x = full();
            s.is("word(0, 0)", x.word(0, 0), 99);
            s.is("word(7, 1)", x.word(7, 1), 99);
            x.open(3);
            s.is("word(7, 0)", x.word(7, 0), 0);
            s.is("word(7, 1)", x.word(7, 1), 99);
        });
        s.hold("Promise 6", "2: COMERS who are not BY and say it, as bits", () -> {
            HatchLights x = full();
            s.is("word(7, 2)", x.word(7, 2), 255);
            s.is("word(0, 2)", x.word(0, 2), 0);
            s.is("open(3)", x.open(3), 0);
            s.is("word(7, 2)", x.word(7, 2), 254);
            x.rehearse(1, 1);
            s.is("word(7, 2)", x.word(7, 2), 252);
            s.is("word(0, 2)", x.word(0, 2), 2);
        });
        s.hold("Promise 6", "-2 if there is none such, or for another what", () -> {
            HatchLights x = rows();
            for (int word : new int[] {-1, 4, 8, 31, 32, LOW, HIGH}) {
                for (int what = 0; what < 3; what++) {
                    s.is("word(" + word + ", " + what + ")", x.word(word, what), -2);
                }
            }
            for (int what : new int[] {-1, 3, LOW, HIGH}) {
                s.is("word(0, " + what + ")", x.word(0, what), -2);
            }
            s.is("word(0, 0) of none", new HatchLights().word(0, 0), -2);
            s.is("word(8, 0) of eight", full().word(8, 0), -2);
        });
        s.hold("Promise 7", "0: his ROAD (-1: BY), 1: his place in its row (0 ..; -1: BY)", () -> {
            HatchLights x = full();
            place(x, 0, 3, 0);
            place(x, 7, 3, 7);
            x.open(3);
            place(x, 0, -1, -1);
            place(x, 7, 3, 6);
        });
        s.hold("Promise 7", "2: his REASON, as bits", () -> {
            HatchLights x = full();
            s.is("comer(7, 2)", x.comer(7, 2), 240);
            x.rehearse(7, 1);
            s.is("comer(7, 2)", x.comer(7, 2), 1);
        });
        s.hold("Promise 7", "3: how often he WAITED", () -> {
            HatchLights x = s.told(P + "worth waited>1;");
            s.is("comer(0, 3)", x.comer(0, 3), 0);
            x.open(0);
            x.open(0);
            s.is("comer(0, 3)", x.comer(0, 3), 2);
            x.open(0);
            x.open(0);
            s.is("comer(0, 3) of one who is by", x.comer(0, 3), 2);
        });
        s.hold("Promise 7", "4: what he was told to say at first, as bits", () -> {
            HatchLights x = full();
            x.rehearse(7, 1);
            s.is("comer(7, 4)", x.comer(7, 4), 240);
            x.open(3);
            s.is("comer(0, 4) of one who is by", x.comer(0, 4), 240);
        });
        s.hold("Promise 7", "-2 if there is none such, or for another what", () -> {
            HatchLights x = rows();
            for (int comer : new int[] {-1, 3, 8, 32, LOW, HIGH}) {
                for (int what = 0; what < 5; what++) {
                    s.is("comer(" + comer + ", " + what + ")", x.comer(comer, what), -2);
                }
            }
            for (int what : new int[] {-1, 5, LOW, HIGH}) {
                s.is("comer(0, " + what + ")", x.comer(0, what), -2);
            }
            s.is("comer(0, 0) of none", new HatchLights().comer(0, 0), -2);
            s.is("comer(8, 0) of eight", full().comer(8, 0), -2);
        });
        s.hold("Promise 8", "WORTH of his REASON", () -> {
            HatchLights x = rows();
            int[] due = {1, -6, 4};
            for (int comer = 0; comer < 3; comer++) {
                s.is("worth(" + comer + ")", x.worth(comer), due[comer]);
            }
            x.rehearse(1, 8);
            s.is("worth(1), rehearsed", x.worth(1), -2);
        });
        s.hold("Promise 8", "-1000000000 if he is BY, or there is none such", () -> {
            HatchLights x = allBy();
            s.is("worth(0)", x.worth(0), NO);
            for (int comer : new int[] {-1, 2, 8, LOW, HIGH}) {
                s.is("worth(" + comer + ")", x.worth(comer), NO);
            }
            s.is("worth(0) of none", new HatchLights().worth(0), NO);
            s.is("worth(7) of eight", full().worth(7), 387);
        });
        s.hold("Promise 9", "KEEPS;", () -> {
            HatchLights x = rows();
            s.is("keeps(0)", x.keeps(0), 5);
            s.is("keeps(2)", x.keeps(2), 10);
            x.rehearse(0, 15);
            s.is("keeps(0), rehearsed", x.keeps(0), 20);
        });
        s.hold("Promise 9", "NONE if he is BY, or there is none such", () -> {
            HatchLights x = allBy();
            s.is("keeps(0)", x.keeps(0), -1);
            for (int comer : new int[] {-1, 2, 8, LOW, HIGH}) {
                s.is("keeps(" + comer + ")", x.keeps(comer), -1);
            }
            s.is("keeps(0) of none", new HatchLights().keeps(0), -1);
            s.is("keeps(7) of eight", full().keeps(7), 20);
        });
        s.hold("Promise 10", "How many are in a row", () -> {
            HatchLights x = full();
            s.is("row(3)", x.row(3), 8);
            s.is("row(0)", x.row(0), 0);
            x.open(3);
            s.is("row(3)", x.row(3), 7);
            x.turn(1, 0);
            s.is("row(3)", x.row(3), 6);
            s.is("row(0)", x.row(0), 1);
            s.is("row(0) of all by", allBy().row(0), 0);
        });
        s.hold("Promise 10", "NONE if there is none such ROAD", () -> {
            for (int roads = 1; roads <= 4; roads++) {
                HatchLights x = s.told("roads " + roads + ";");
                s.is("row of the last", x.row(roads - 1), 0);
                for (int road : new int[] {-1, roads, LOW, HIGH}) {
                    s.is("row(" + road + ")", x.row(road), -1);
                }
            }
        });
    }

    // ---- promises 11 to 16

    private static void hatchAndOpen() {
        s.hold("Promise 11", "A HATCH to the ROAD at hand: who is BY by it; -1: nobody", () -> {
            HatchLights x = s.told("roads 2;word a moves 30;word b moves 1;comer p road 0 says b;comer q road 1 says a;comer r road 0 says a;");
            int[] due = {-1, 1, 2, -1, -1};
            for (int who : due) {
                s.is("hatch()", x.hatch(), who);
            }
            HatchLights last = full();
            last.turn(7, 0);
            s.is("hatch() of the eighth", last.hatch(), 7);
        });
        s.hold("Promise 11", "-2, doing nothing, behind 999 of them", () -> {
            // More calls than the document speaks of: there is no other way to the last hatch.
            HatchLights x = s.told("roads 2;" + P + "worth hatch>998;");
            hatches(x, 998);
            s.is("hatch() 999", x.hatch(), -1);
            s.is("about(6)", x.about(6), 999);
            s.idle("hatch() 1000", x, x::hatch, -2);
            x.undo();
            s.is("hatch() 999 again", x.hatch(), -1);
        });
        s.hold("Promise 11", "(An ACT.)", () -> {
            HatchLights x = rows();
            s.act("hatch()", x, x::hatch, 0);
            s.act("hatch(), not let by", x, () -> x.open(0), -1);
            s.act("hatch() to nobody", x, () -> x.open(2), -1);
            state(x, "then", 1, 50, 10, 3, 0, 868, 3, 0);
            HatchLights eight = full();
            s.act("open(3) of eight", eight, () -> eight.open(3), 0);
            s.act("open(3) of seven", eight, () -> eight.open(3), -1);
        });
        s.hold("Promise 12", "A HATCH to a ROAD: likewise", () -> {
            HatchLights x = rows();
            s.is("open(2)", x.open(2), -1);
            s.is("open(1)", x.open(1), 2);
            s.is("open(0)", x.open(0), -1);
            HatchLights y = s.told(P);
            for (int i = 0; i < 999; i++) {
                y.open(i % 4);
            }
            s.idle("open(0) behind 999", y, () -> y.open(0), -2);
        });
        s.hold("Promise 12", "-2, doing nothing, if there is none such, too", () -> {
            HatchLights x = rows();
            x.hatch();
            x.undo();
            for (int road : new int[] {-1, 3, 4, LOW, HIGH}) {
                s.idle("open(" + road + ")", x, () -> x.open(road), -2);
            }
        });
        s.hold("Promise 12", "(An ACT.)", () -> {
            HatchLights x = rows();
            s.act("open(1)", x, () -> x.open(1), 2);
            state(x, "then", 4, 51, 10, 1, 2, 30, 1, 0);
        });
    }

    private static void rehearse() {
        s.hold("Promise 13", "His REASON is told anew (WORDS as bits, 1 .. 4): WORTH then", () -> {
            HatchLights x = full();
            s.is("rehearse(0, 1)", x.rehearse(0, 1), 90);
            s.is("rehearse(0, 15)", x.rehearse(0, 15), 387);
            s.is("rehearse(7, 128)", x.rehearse(7, 128), 90);
            s.is("rehearse(7, 195)", x.rehearse(7, 195), 387);
            s.is("comer(7, 2)", x.comer(7, 2), 195);
        });
        s.hold("Promise 13", "-1000000000, doing nothing, if it is the same", () -> {
            HatchLights x = full();
            s.idle("rehearse(0, 240)", x, () -> x.rehearse(0, 240), NO);
            x.rehearse(0, 1);
            x.rehearse(0, 2);
            x.undo();
            s.idle("rehearse(0, 1)", x, () -> x.rehearse(0, 1), NO);
        });
        s.hold("Promise 13", "he is BY, or one can't be", () -> {
            HatchLights by = s.told("word a moves 1;word b moves 1;comer p road 0 says a;worth 1;");
            by.hatch();
            s.idle("rehearse(0, 2) of one who is by", by, () -> by.rehearse(0, 2), NO);
            HatchLights x = rows();
            for (int words : new int[] {0, 16, 17, 32, 256, -1, LOW, LOW + 1, HIGH}) {
                s.idle("rehearse(0, " + words + ")", x, () -> x.rehearse(0, words), NO);
            }
            for (int comer : new int[] {-1, 3, 8, LOW, HIGH}) {
                s.is("rehearse(" + comer + ", 2)", x.rehearse(comer, 2), NO);
            }
            s.is("about(9)", x.about(9), 0);
            HatchLights y = full();
            for (int words : new int[] {31, 255, 256, 257, 241}) {
                s.is("rehearse(0, " + words + ")", y.rehearse(0, words), NO);
            }
        });
        s.hold("Promise 13", "(An ACT.)", () -> {
            HatchLights x = rows();
            s.act("rehearse(0, 15)", x, () -> x.rehearse(0, 15), 11);
            s.is("comer(0, 2)", x.comer(0, 2), 15);
        });
    }

    private static void turn() {
        s.hold("Promise 14", "He takes another ROAD: his place", () -> {
            HatchLights x = full();
            s.is("turn(0, 0)", x.turn(0, 0), 0);
            for (int comer = 1; comer < 8; comer++) {
                s.is("turn(" + comer + ", 0)", x.turn(comer, 0), comer);
            }
            s.is("turn(3, 2)", x.turn(3, 2), 0);
            s.is("turn(3, 0)", x.turn(3, 0), 7);
            place(x, 7, 0, 6);
            place(x, 2, 0, 2);
            place(x, 4, 0, 3);
        });
        s.hold("Promise 14", "NONE, doing nothing, if he is on it, BY, or one can't be", () -> {
            HatchLights x = rows();
            s.idle("turn(0, 0)", x, () -> x.turn(0, 0), -1);
            s.idle("turn(1, 0)", x, () -> x.turn(1, 0), -1);
            for (int road : new int[] {-1, 3, 4, LOW, HIGH}) {
                s.is("turn(0, " + road + ")", x.turn(0, road), -1);
            }
            for (int comer : new int[] {-1, 3, 8, LOW, HIGH}) {
                s.is("turn(" + comer + ", 2)", x.turn(comer, 2), -1);
            }
            s.is("about(9)", x.about(9), 0);
            x.hatch();
            s.idle("turn(0, 2) of one who is by", x, () -> x.turn(0, 2), -1);
            s.idle("turn(0, -1) of one who is by", x, () -> x.turn(0, -1), -1);
        });
        s.hold("Promise 14", "(An ACT.)", () -> {
            HatchLights x = rows();
            s.act("turn(0, 1)", x, () -> x.turn(0, 1), 1);
            place(x, 0, 1, 1);
        });
    }

    private static void reviveAndHumour() {
        s.hold("Promise 15", "A WORD has MOVES as told again: these", () -> {
            HatchLights x = full();
            x.open(3);
            s.is("word(7, 0)", x.word(7, 0), 0);
            s.is("revive(7)", x.revive(7), 99);
            s.is("word(7, 0)", x.word(7, 0), 99);
            s.is("word(6, 0)", x.word(6, 0), 0);
        });
        s.hold("Promise 15", "NONE, doing nothing, if it has, or there is none such", () -> {
            HatchLights x = rows();
            for (int word : new int[] {0, 2, -1, 4, 8, LOW, HIGH}) {
                s.idle("revive(" + word + ")", x, () -> x.revive(word), -1);
            }
            x.hatch();
            s.is("revive(0)", x.revive(0), 10);
            s.idle("revive(0) again", x, () -> x.revive(0), -1);
            s.is("revive(0) of none", new HatchLights().revive(0), -1);
        });
        s.hold("Promise 15", "(An ACT.)", () -> {
            HatchLights x = rows();
            x.hatch();
            s.act("revive(0)", x, () -> x.revive(0), 10);
            s.is("word(0, 0)", x.word(0, 0), 10);
        });
        s.hold("Promise 16", "The MOOD is told anew (0 .. 99): which it was", () -> {
            HatchLights x = rows();
            s.is("humour(0)", x.humour(0), 50);
            s.is("humour(99)", x.humour(99), 0);
            s.is("humour(1)", x.humour(1), 99);
            s.is("about(4)", x.about(4), 1);
        });
        s.hold("Promise 16", "NONE, doing nothing, if it is the same, or for another number", () -> {
            HatchLights x = rows();
            for (int mood : new int[] {50, -1, 100, LOW, HIGH}) {
                s.idle("humour(" + mood + ")", x, () -> x.humour(mood), -1);
            }
            x.humour(0);
            s.idle("humour(0) again", x, () -> x.humour(0), -1);
        });
        s.hold("Promise 16", "(An ACT.)", () -> {
            HatchLights x = rows();
            s.act("humour(0)", x, () -> x.humour(0), 50);
            s.is("about(4)", x.about(4), 0);
        });
    }

    // ---- promises 17, 18, 50 to 52

    private static void undoAndRedo() {
        s.hold("Promise 17", "UNDO: true; false if there is none.", () -> {
            HatchLights x = rows();
            s.idle("undo() of none", x, () -> x.undo() ? 1 : 0, 0);
            x.hatch();
            s.is("undo()", x.undo(), true);
            s.idle("undo() of no more", x, () -> x.undo() ? 1 : 0, 0);
            x.open(9);
            s.is("undo() of a refused call", x.undo(), false);
        });
        s.hold("Promise 18", "REDO: true; false if there is none.", () -> {
            HatchLights x = rows();
            s.idle("redo() of none", x, () -> x.redo() ? 1 : 0, 0);
            x.hatch();
            s.idle("redo() of nothing undone", x, () -> x.redo() ? 1 : 0, 0);
            x.undo();
            s.is("redo()", x.redo(), true);
            state(x, "redone", 1, 51, 5, 1, 1, 30, 1, 0);
            s.idle("redo() of no more", x, () -> x.redo() ? 1 : 0, 0);
        });
    }

    /** Much done, so that all that a box keeps is not as at first. */
    private static HatchLights done() {
        HatchLights x = rows();
        x.hatch();
        x.open(1);
        x.rehearse(1, 9);
        x.turn(1, 2);
        x.humour(31);
        return x;
    }

    private static void images() {
        s.hold("Promise 50", "Rows, REASONS, how often they WAITED, MOVES, MOOD, minutes, hatch, ROAD at hand, SEED are kept in a BOX 0 .. 2: the hatch", () -> {
            for (int box = 0; box < 3; box++) {
                HatchLights x = done();
                int[] kept = Sentences.look(x);
                s.is("image(" + box + ")", x.image(box), 2);
                s.is("about(9), no act", x.about(9), 5);
                x.turn(2, 0);
                x.rehearse(1, 4);
                hatches(x, 4);
                x.humour(3);
                s.is("back(" + box + ")", x.back(box), 2);
                int[] then = Sentences.look(x);
                s.is("about(9)", then[9], 0);
                then[9] = kept[9];
                s.alike("as it was kept", then, kept);
            }
        });
        s.hold("Promise 50", "NONE if there is none such", () -> {
            HatchLights x = done();
            for (int box : new int[] {-1, 3, LOW, HIGH}) {
                s.idle("image(" + box + ")", x, () -> x.image(box), -1);
                s.is("back(" + box + ")", x.back(box), -1);
            }
        });
        s.hold("Promise 51", "All is as it was kept", () -> {
            HatchLights x = done();
            x.image(0);
            x.hatch();
            x.image(1);
            x.hatch();
            x.image(0);
            x.hatch();
            s.is("back(1)", x.back(1), 3);
            s.is("about(6)", x.about(6), 3);
            s.is("back(0), kept anew", x.back(0), 4);
            s.is("back(1) once more", x.back(1), 3);
            x.hatch();
            s.is("gone on from", x.about(6), 4);
            s.is("the box stays", x.back(1), 3);
        });
        s.hold("Promise 51", "(no ACTS are kept then)", () -> {
            HatchLights x = done();
            x.image(2);
            x.undo();
            s.is("back(2)", x.back(2), 2);
            s.is("about(9)", x.about(9), 0);
            s.is("about(10)", x.about(10), 0);
            s.is("undo()", x.undo(), false);
            s.is("redo()", x.redo(), false);
            x.humour(5);
            s.is("undo() of what came then", x.undo(), true);
            s.is("about(4)", x.about(4), 31);
            s.is("undo() of no more", x.undo(), false);
            for (int mood = 0; mood < 45; mood++) {
                x.humour(mood);
            }
            x.back(2);
            s.is("undo() of many", x.undo(), false);
            x.humour(5);
            x.undo();
            s.is("about(4) behind many", x.about(4), 31);
        });
        s.hold("Promise 51", "the hatch;", () -> {
            HatchLights x = rows();
            x.image(0);
            hatches(x, 7);
            x.image(1);
            s.is("back(0)", x.back(0), 0);
            s.is("back(1)", x.back(1), 7);
        });
        s.hold("Promise 51", "NONE, doing nothing, if nothing was", () -> {
            HatchLights x = done();
            x.undo();
            for (int box : new int[] {0, 1, 2, -1, 3, LOW, HIGH}) {
                s.idle("back(" + box + ")", x, () -> x.back(box), -1);
            }
            x.image(1);
            s.idle("back(0)", x, () -> x.back(0), -1);
            s.idle("back(2)", x, () -> x.back(2), -1);
            s.is("redo()", x.redo(), true);
        });
    }

    private static void about() {
        s.hold("Promise 52", "What 0: COMERS, 1: WORDS, 2: ROADS", () -> {
            HatchLights x = full();
            s.is("about(0)", x.about(0), 8);
            s.is("about(1)", x.about(1), 8);
            s.is("about(2)", x.about(2), 4);
            HatchLights y = allBy();
            s.is("about(0) of all by", y.about(0), 2);
            s.is("about(1)", y.about(1), 1);
            s.is("about(2)", y.about(2), 2);
        });
        s.hold("Promise 52", "3: who is BY, as bits", () -> {
            s.is("about(3) at first", full().about(3), 0);
            s.is("about(3) of all", allBy().about(3), 3);
            HatchLights x = s.told("word a moves 1;comer p road 0 says a;comer q road 1 says a;worth behind+hatch;");
            x.hatch();
            x.hatch();
            s.is("about(3)", x.about(3), 2);
        });
        s.hold("Promise 52", "4: MOOD, 5: minutes, 6: the hatch, 7: the ROAD at hand, 8: the SEED", () -> {
            HatchLights x = rows();
            state(x, "at first", 0, 50, 0, 0, 0, 7);
            x.open(2);
            x.open(1);
            state(x, "then", 4, 51, 10, 2, 2, 181);
        });
        s.hold("Promise 52", "9: ACTS that can be undone, 10: redone", () -> {
            HatchLights x = new HatchLights();
            for (int i = 0; i < 60; i++) {
                x.hatch();
            }
            for (int i = 0; i <= 40; i++) {
                s.is("about(9)", x.about(9), 40 - i);
                s.is("about(10)", x.about(10), i);
                s.is("undo()", x.undo(), i < 40);
            }
        });
        s.hold("Promise 52", "11: what is SEEN", () -> {
            HatchLights x = s.told(P);
            for (int i = 0; i < 31; i++) {
                s.is("about(11)", x.about(11), i < 30 ? i : 30);
                x.seen(1, 0, true);
            }
            s.is("about(11)", x.about(11), 30);
        });
        s.hold("Promise 52", "12: the TIME", () -> {
            HatchLights x = new HatchLights();
            s.is("about(12) at first", x.about(12), 0);
            for (int i = 0; i < 101; i++) {
                x.later(1000);
            }
            s.is("about(12)", x.about(12), 100000);
        });
        s.hold("Promise 52", "13: bytes on the TAPE", () -> {
            HatchLights x = new HatchLights();
            s.is("about(13) at first", x.about(13), 0);
            for (int i = 1; i <= 81; i++) {
                x.feed(0, 0, 0, 0, 0);
                s.is("about(13)", x.about(13), i <= 80 ? 20 * i : 1600);
            }
            x.end(1);
            s.is("about(13)", x.about(13), 1);
        });
        s.hold("Promise 52", "14: units", () -> {
            s.is("about(14) of none told", rows().about(14), 0);
            s.is("about(14)", s.told("worth 1;").about(14), 1);
            s.is("about(14)", s.told("keeps (mood);").about(14), 2);
            s.is("about(14)", s.told("worth 1" + "+1".repeat(29) + ";keeps (((1)))" + "*hatch".repeat(26) + ";").about(14), 60);
        });
        s.hold("Promise 52", "15: numbers that lie there", () -> {
            HatchLights x = s.told("roads 1;" + P + "comer q road 0 says a;worth waited>5-behind;");
            s.is("about(15) at first", x.about(15), 0);
            x.soonest();
            s.is("about(15) of soonest", x.about(15), 7);
            x.rivals(0, 1);
            s.is("about(15) of rivals", x.about(15), 2);
        });
        s.hold("Promise 52", "NONE for another what", () -> {
            HatchLights x = done();
            for (int what : new int[] {-1, 16, LOW, HIGH}) {
                s.is("about(" + what + ")", x.about(what), -1);
            }
        });
    }

    public static void main(String[] args) throws IOException {
        s = new Sentences(args);
        atFirst();
        facts();
        arithmetic();
        heard();
        goesOn();
        manyCalls();
        acts();
        whatIsSo();
        hatchAndOpen();
        rehearse();
        turn();
        reviveAndHumour();
        undoAndRedo();
        images();
        about();
        s.end(Sentences.promises(6, 18, T, "Promise 50", "Promise 51", "Promise 52"));
    }
}
