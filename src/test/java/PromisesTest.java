/** Promises 6 to 52, each by small crossings whose answers were worked out by hand from the document. */
public final class PromisesTest {
    private static final Due DUE = new Due();
    private static final int NO = -1000000000;
    private static final int LOW = Integer.MIN_VALUE;
    private static final int HIGH = Integer.MAX_VALUE;

    private static final String FOUR = "roads 3;word a moves 10 tires 4;word b moves 3;word c moves 0 tires 2;"
            + "word d moves 7 tires 3;comer p road 0 says a;comer q road 0 says b;comer r road 1 says a b;"
            + "comer s road 1 says c;mood 98;draw 7;";

    private static HatchLights four() {
        return DUE.told(FOUR);
    }

    private static HatchLights none() {
        return new HatchLights();
    }

    private static void word() {
        HatchLights x = four();
        DUE.is("6 moves", x.word(0, 0), 10);
        DUE.is("6 tires", x.word(3, 1), 3);
        DUE.is("6 tires nothing", x.word(1, 1), 0);
        DUE.is("6 says a", x.word(0, 2), 5);
        DUE.is("6 says d", x.word(3, 2), 0);
        x.hatch();
        DUE.is("6 moves less", x.word(0, 0), 6);
        DUE.is("6 by no more", x.word(0, 2), 4);
        x.rehearse(1, 8);
        DUE.is("6 rehearsed", x.word(3, 2), 2);
        for (int w : new int[] {-1, 4, 8, LOW, HIGH}) {
            DUE.is("6 no word " + w, x.word(w, 0), -2);
        }
        for (int what : new int[] {-1, 3, LOW, HIGH}) {
            DUE.is("6 no what " + what, x.word(0, what), -2);
        }
    }

    private static void comer() {
        HatchLights x = four();
        DUE.is("7 road", x.comer(2, 0), 1);
        DUE.is("7 place", x.comer(3, 1), 1);
        DUE.is("7 reason", x.comer(2, 2), 3);
        DUE.is("7 waited", x.comer(2, 3), 0);
        x.rehearse(0, 9);
        DUE.is("7 reason anew", x.comer(0, 2), 9);
        DUE.is("7 told at first", x.comer(0, 4), 1);
        x.hatch();
        DUE.is("7 by: no road", x.comer(0, 0), -1);
        DUE.is("7 by: no place", x.comer(0, 1), -1);
        DUE.is("7 by: his reason", x.comer(0, 2), 9);
        DUE.is("7 by: waited", x.comer(0, 3), 0);
        DUE.is("7 next is first", x.comer(1, 1), 0);
        DUE.is("7 waited once", x.comer(1, 3), 1);
        for (int c : new int[] {-1, 4, 8, LOW, HIGH}) {
            DUE.is("7 no comer " + c, x.comer(c, 0), -2);
        }
        for (int what : new int[] {-1, 5, LOW, HIGH}) {
            DUE.is("7 no what " + what, x.comer(0, what), -2);
        }
    }

    private static int worthBy(String formula) {
        HatchLights x = DUE.told("roads 2;word a moves 10;word b moves 7;comer p road 1 says a b;comer q road 1 says a;"
                + "mood 41;worth " + formula + ";");
        x.open(0);
        x.open(0);
        x.open(0);
        return x.worth(0);
    }

    private static void worth() {
        HatchLights x = four();
        int[] due = {1, -6, 4, -9};
        for (int c = 0; c < 4; c++) {
            DUE.is("8 worth " + c, x.worth(c), due[c]);
        }
        x.hatch();
        DUE.is("8 by", x.worth(0), NO);
        DUE.is("8 none such", x.worth(4), NO);
        DUE.is("8 none such", x.worth(-1), NO);
        DUE.is("8 moved", worthBy("moved"), 17);
        DUE.is("8 many", worthBy("many"), 2);
        DUE.is("8 waited", worthBy("waited"), 3);
        DUE.is("8 behind", worthBy("behind"), 1);
        DUE.is("8 mood", worthBy("mood"), 41);
        DUE.is("8 hatch", worthBy("hatch"), 3);
        DUE.is("8 terms first", worthBy("2+3*4"), 14);
        DUE.is("8 from the left", worthBy("20-3-4"), 13);
        DUE.is("8 from the left", worthBy("100/5/2*3%7"), 2);
        DUE.is("8 cut", worthBy("(0-7)/2"), -3);
        DUE.is("8 rest", worthBy("(0-7)%2"), -1);
        DUE.is("8 by zero", worthBy("7/0"), 0);
        DUE.is("8 rest by zero", worthBy("7%(hatch-3)"), 0);
        DUE.is("8 wrapping", worthBy("9999*9999*9999"), 9999 * 9999 * 9999);
        DUE.is("8 lowest by -1", worthBy("(8192*8192*32)/(0-1)"), LOW);
        DUE.is("8 lowest rest by -1", worthBy("(8192*8192*32)%(0-1)"), 0);
        DUE.is("8 less", worthBy("1+1<3"), 1);
        DUE.is("8 less not", worthBy("3<3"), 0);
        DUE.is("8 more", worthBy("4>3"), 1);
        DUE.is("8 equal", worthBy("2*2=4"), 1);
        DUE.is("8 and", worthBy("7 and 5"), 1);
        DUE.is("8 and 0", worthBy("7 and 0"), 0);
        DUE.is("8 or", worthBy("0 or 5"), 1);
        DUE.is("8 or 0", worthBy("0 or 0"), 0);
        DUE.is("8 not", worthBy("not 5"), 0);
        DUE.is("8 not not", worthBy("not not 5"), 1);
        DUE.is("8 not binds loosely", worthBy("not 1 + 1 = 3"), 1);
        DUE.is("8 not ahead of and", worthBy("not 0 and 0"), 0);
        DUE.is("8 and ahead of or", worthBy("1 or 0 and 0"), 1);
        DUE.is("8 brackets", worthBy("(1 or 0) and 0"), 0);
        DUE.is("8 a relation in brackets", worthBy("(3>2)+(3>2)"), 2);
    }

    private static void keeps() {
        HatchLights x = four();
        DUE.is("9 five times many", x.keeps(2), 10);
        x.hatch();
        DUE.is("9 by", x.keeps(0), -1);
        DUE.is("9 none such", x.keeps(4), -1);
        DUE.is("9 none such", x.keeps(LOW), -1);
        DUE.is("9 least", DUE.told("word a moves 1;comer p road 0 says a;keeps 3-9;").keeps(0), 0);
        DUE.is("9 most", DUE.told("word a moves 1;comer p road 0 says a;keeps 1000;").keeps(0), 999);
        DUE.is("9 999", DUE.told("word a moves 1;comer p road 0 says a;keeps 999;").keeps(0), 999);
        DUE.is("9 a formula", DUE.told("word a moves 6;comer p road 0 says a;keeps mood+moved;").keeps(0), 56);
    }

    private static void row() {
        HatchLights x = four();
        DUE.is("10", x.row(0), 2);
        DUE.is("10", x.row(2), 0);
        DUE.is("10 no road", x.row(3), -1);
        DUE.is("10 no road", x.row(-1), -1);
        x.hatch();
        DUE.is("10 one by", x.row(0), 1);
    }

    private static void state(HatchLights x, String when, int... about) {
        for (int i = 0; i < about.length; i++) {
            DUE.is(when + " about(" + (3 + i) + ")", x.about(3 + i), about[i]);
        }
    }

    private static void hatch() {
        HatchLights x = four();
        DUE.is("11 p", x.hatch(), 0);
        state(x, "11 first", 1, 99, 5, 1, 1, 30, 1, 0);
        DUE.is("11 nobody is by", x.hatch(), -1);
        state(x, "11 second", 1, 98, 15, 2, 2, 181, 2, 0);
        DUE.is("11 r is behind", x.comer(2, 1), 1);
        DUE.is("11 s is first", x.comer(3, 1), 0);
        DUE.is("11 r waited", x.comer(2, 3), 2);
        DUE.is("11 a tires", x.word(0, 0), 2);
        DUE.is("11 nobody is heard", x.hatch(), -1);
        state(x, "11 third", 1, 98, 15, 3, 0, 868, 3, 0);
        DUE.is("11 q waited", x.comer(1, 3), 3);
        DUE.is("11 p waited no more", x.comer(0, 3), 0);
        HatchLights y = DUE.told("roads 1;word a moves 1 tires 3;comer p road 0 says a;comer q road 0 says a;mood 0;worth 0;");
        y.hatch();
        DUE.is("11 moves at least 0", y.word(0, 0), 0);
        DUE.is("11 mood at least 0", y.about(4), 0);
        DUE.is("11 behind the row", y.comer(0, 1), 1);
        DUE.is("11 the hand of one road", y.about(7), 0);
        HatchLights z = DUE.told("roads 1;word a moves 1;comer p road 0 says a;comer q road 0 says a;mood 99;worth 1;");
        DUE.is("11 p by", z.hatch(), 0);
        DUE.is("11 mood at most 99", z.about(4), 99);
        HatchLights both = DUE.told("roads 1;word a moves 1;comer p road 0 says a;worth mood=50;keeps mood;");
        DUE.is("11 by what is so ahead", both.hatch(), 0);
        DUE.is("11 by what is so ahead", both.about(5), 50);
    }

    private static void whims() {
        HatchLights x = DUE.told("roads 1;word a moves 50 tires 1;comer p road 0 says a;comer q road 0 says a;whim 31;draw 7;");
        DUE.is("19 none told", x.will(1, 0), 1);
        DUE.is("19 a whim told", x.will(1, 1), 0);
        DUE.is("19 no whim", x.will(2, 1), 2);
        DUE.is("19 nothing is done", x.about(8), 7);
        DUE.is("11 a whim", x.hatch(), -1);
        state(x, "11 a whim", 0, 49, 5, 1, 0, 30);
        DUE.is("11 a whim tires", x.word(0, 0), 49);
        DUE.is("11 a whim: behind", x.comer(0, 1), 1);
        DUE.is("11 no whim", x.hatch(), 1);
        HatchLights y = DUE.told("roads 1;word a moves 50;comer p road 0 says a;whim 30;draw 7;");
        DUE.is("11 not less than whim", y.hatch(), 0);
        HatchLights z = DUE.told("roads 1;word a moves 50;comer p road 0 says a;whim 100;draw 7;");
        DUE.is("11 always a whim", z.hatch(), -1);
        DUE.is("19 always a whim", z.will(60, 1), 0);
        DUE.is("20 no whims ahead", z.when(0), 1);
    }

    private static void open() {
        HatchLights x = four();
        DUE.is("12 no road", x.open(3), -2);
        DUE.is("12 no road", x.open(-1), -2);
        DUE.is("12 nothing done", x.about(6), 0);
        DUE.is("12 r", x.open(1), 2);
        state(x, "12", 4, 99, 10, 1, 2, 30, 1, 0);
        DUE.is("12 nobody", x.open(2), -1);
        DUE.is("12 round", x.about(7), 0);
        HatchLights long1 = none();
        for (int i = 0; i < 511; i++) {
            long1.open(i % 4);
        }
        DUE.is("12 511 hatches", long1.about(6), 511);
    }

    private static void lastHatch() {
        // Beyond the 512 calls of an object nothing is promised, but there is no other way to the last hatch.
        HatchLights x = DUE.told("roads 1;word a moves 1;comer p road 0 says a;worth hatch>998;");
        for (int i = 0; i < 998; i++) {
            x.hatch();
        }
        DUE.is("20 goes on beyond the last hatch", x.when(0), 2);
        DUE.is("11 the last", x.hatch(), -1);
        DUE.is("11 behind the last", x.hatch(), -2);
        DUE.is("12 behind the last", x.open(0), -2);
        DUE.is("11 hatches", x.about(6), 999);
        DUE.is("11 waited at most", x.comer(0, 3), 999);
        DUE.is("20 goes on", x.when(0), 1);
        HatchLights y = DUE.told("roads 1;word a moves 1;comer p road 0 says a;worth waited>999;");
        for (int i = 0; i < 999; i++) {
            y.hatch();
        }
        DUE.is("20 waited at most", y.when(0), -1);
    }

    private static void rehearse() {
        HatchLights x = four();
        DUE.is("13", x.rehearse(1, 3), 4);
        DUE.is("13 the same", x.rehearse(1, 3), NO);
        DUE.is("13 none", x.rehearse(1, 0), NO);
        DUE.is("13 no such word", x.rehearse(1, 16), NO);
        DUE.is("13 no such word", x.rehearse(1, 17), NO);
        DUE.is("13 below", x.rehearse(1, -1), NO);
        DUE.is("13 lowest", x.rehearse(1, LOW), NO);
        DUE.is("13 no comer", x.rehearse(4, 1), NO);
        DUE.is("13 one act", x.about(9), 1);
        DUE.is("13 all four", x.rehearse(1, 15), 11);
        x.hatch();
        DUE.is("13 by", x.rehearse(0, 2), NO);
        HatchLights y = DUE.told("word a moves 1;word b moves 1;word c moves 1;word d moves 1;word e moves 1;comer p road 0 says a;");
        DUE.is("13 five", y.rehearse(0, 31), NO);
        DUE.is("13 four", y.rehearse(0, 30), -5);
    }

    private static void turn() {
        HatchLights x = four();
        DUE.is("14", x.turn(0, 1), 2);
        DUE.is("14 the row he left", x.comer(1, 1), 0);
        DUE.is("14 on it", x.turn(0, 1), -1);
        DUE.is("14 no road", x.turn(0, 3), -1);
        DUE.is("14 no road", x.turn(0, -1), -1);
        DUE.is("14 no comer", x.turn(4, 0), -1);
        DUE.is("14 one act", x.about(9), 1);
        DUE.is("14 from the middle", x.turn(3, 2), 0);
        DUE.is("14 comes up", x.comer(0, 1), 1);
        x.open(1);
        DUE.is("14 by", x.turn(2, 0), -1);
    }

    private static void revive() {
        HatchLights x = four();
        DUE.is("15 has", x.revive(0), -1);
        x.hatch();
        DUE.is("15", x.revive(0), 10);
        DUE.is("15 then", x.word(0, 0), 10);
        DUE.is("15 again", x.revive(0), -1);
        DUE.is("15 none such", x.revive(4), -1);
        DUE.is("15 none such", x.revive(-1), -1);
        DUE.is("15 two acts", x.about(9), 2);
    }

    private static void humour() {
        HatchLights x = four();
        DUE.is("16 the same", x.humour(98), -1);
        DUE.is("16 100", x.humour(100), -1);
        DUE.is("16 -1", x.humour(-1), -1);
        DUE.is("16 no act", x.about(9), 0);
        DUE.is("16 0", x.humour(0), 98);
        DUE.is("16 99", x.humour(99), 0);
        DUE.is("16 mood", x.about(4), 99);
    }

    private static void undo() {
        HatchLights x = four();
        DUE.is("17 none", x.undo(), false);
        DUE.is("18 none", x.redo(), false);
        x.hatch();
        x.rehearse(1, 15);
        x.turn(1, 2);
        x.revive(0);
        x.humour(7);
        x.open(2);
        state(x, "17 all done", 3, 8, 25, 2, 0, 181, 6, 0);
        for (int i = 0; i < 6; i++) {
            DUE.is("17", x.undo(), true);
        }
        DUE.is("17 no more", x.undo(), false);
        state(x, "17 all undone", 0, 98, 0, 0, 0, 7, 0, 6);
        DUE.is("17 row", x.row(0), 2);
        DUE.is("17 moves", x.word(0, 0), 10);
        DUE.is("17 reason", x.comer(1, 2), 2);
        for (int i = 0; i < 6; i++) {
            DUE.is("18", x.redo(), true);
        }
        DUE.is("18 no more", x.redo(), false);
        state(x, "18 all redone", 3, 8, 25, 2, 0, 181, 6, 0);
        x.undo();
        x.undo();
        DUE.is("18 mood back", x.about(4), 99);
        DUE.is("18 no act, no loss", x.humour(99), -1);
        DUE.is("18 two can be", x.about(10), 2);
        x.humour(5);
        DUE.is("18 another act", x.redo(), false);
        DUE.is("18 none can be", x.about(10), 0);
        DUE.is("18 five can be undone", x.about(9), 5);
    }

    private static void undoMany() {
        HatchLights x = none();
        for (int i = 0; i < 45; i++) {
            x.humour(i);
        }
        DUE.is("17 at most forty", x.about(9), 40);
        for (int i = 0; i < 40; i++) {
            DUE.is("17 back", x.undo(), true);
        }
        DUE.is("17 the oldest went", x.undo(), false);
        DUE.is("17 mood of the fifth", x.about(4), 4);
        DUE.is("18 forty", x.about(10), 40);
        for (int i = 0; i < 40; i++) {
            DUE.is("18 forth", x.redo(), true);
        }
        DUE.is("18 mood of the last", x.about(4), 44);
        DUE.is("18 no more", x.redo(), false);
        for (int i = 45; i < 245; i++) {
            x.humour(i % 100);
        }
        for (int i = 243; i >= 204; i--) {
            x.undo();
            DUE.is("17 far back", x.about(4), i % 100);
        }
        DUE.is("17 the oldest went", x.undo(), false);
    }

    private static void ahead() {
        HatchLights x = four();
        DUE.is("19 now", x.will(0, 0), 0);
        DUE.is("19 one", x.will(1, 1), 1);
        DUE.is("19 sixty", x.will(60, 0), 1);
        for (int n : new int[] {-1, 61, LOW, HIGH}) {
            DUE.is("19 " + n, x.will(n, 0), -1);
            DUE.is("21 " + n, x.clock(n), -1);
            DUE.is("28 " + n, x.press(n), -1);
            DUE.is("31 " + n, x.echoes(0, n), -1);
            DUE.is("34 " + n, x.clears(0, n), -1);
            DUE.is("35 " + n, x.reorder(n, 0), -1);
            DUE.is("41 " + n, x.temper(n), -1);
        }
        DUE.is("19 no what", x.will(1, 2), -1);
        DUE.is("19 no what", x.will(1, -1), -1);
        DUE.is("20 p", x.when(0), 1);
        DUE.is("20 q", x.when(1), -1);
        DUE.is("20 none such", x.when(4), -1);
        DUE.is("21", x.clock(2), 15);
        DUE.is("21 five", x.clock(5), 25);
        DUE.is("41", x.temper(1), 99);
        DUE.is("41 two", x.temper(2), 98);
        DUE.is("41 five", x.temper(5), 96);
        DUE.is("28", x.press(1), 3);
        DUE.is("28 sixty", x.press(60), 180);
        DUE.is("28 none", x.press(0), 0);
        DUE.is("31 a", x.echoes(0, 2), 2);
        DUE.is("31 b", x.echoes(1, 4), 2);
        DUE.is("31 c", x.echoes(2, 4), 0);
        DUE.is("31 c", x.echoes(2, 5), 1);
        DUE.is("31 none such", x.echoes(4, 1), -1);
        DUE.is("34", x.clears(0, 1), 1);
        DUE.is("34 other row", x.clears(1, 60), 0);
        DUE.is("34 no road", x.clears(3, 1), -1);
        DUE.is("36", x.jam(), 14);
        x.hatch();
        DUE.is("19 who is by already", x.will(0, 0), 1);
        DUE.is("20 he is", x.when(0), 0);
        DUE.is("21 goes on", x.clock(0), 5);
        DUE.is("21 goes on", x.clock(1), 15);
        DUE.is("34 in the row now", x.clears(0, 60), 0);
        DUE.is("41 goes on", x.temper(0), 99);
        DUE.is("0 nothing is done", x.about(6), 1);
        HatchLights far = DUE.told("roads 1;word a moves 1;comer p road 0 says a;worth waited>58;keeps 2;");
        DUE.is("20 sixty at most", far.when(0), 60);
        DUE.is("25 sixty at most", far.best(0, 1), 60);
        DUE.is("30 sixty at most", far.spends(0), 120);
        DUE.is("36 none", far.jam(), 0);
        HatchLights farther = DUE.told("roads 1;word a moves 1;comer p road 0 says a;worth waited>59;keeps 2;");
        DUE.is("20 not by then", farther.when(0), -1);
        DUE.is("25 not by then", farther.best(0, 1), -1);
        DUE.is("30 not by then", farther.spends(0), -1);
        DUE.is("36 one", farther.jam(), 1);
    }

    private static void reasons() {
        HatchLights x = DUE.told("word a moves 5;word b moves 6;word c moves 4;word d moves 9;comer p road 0 says a c;"
                + "comer q road 1 says a b c d;comer r road 2 says d;");
        DUE.is("22 how many", x.shortest(0, 0), 2);
        DUE.is("22 which", x.shortest(0, 1), 3);
        DUE.is("23 none", x.honest(0, 0), -1);
        DUE.is("23 how many", x.honest(1, 0), 2);
        DUE.is("23 which", x.honest(1, 1), 3);
        x.rehearse(0, 12);
        x.rehearse(1, 8);
        DUE.is("23 as told at first", x.honest(0, 1), -1);
        DUE.is("23 as told at first", x.honest(1, 1), 3);
        DUE.is("22 no what", x.shortest(0, 2), -1);
        DUE.is("23 no what", x.honest(0, -1), -1);
        DUE.is("22 no comer", x.shortest(3, 0), -1);
        DUE.is("23 no comer", x.honest(-1, 0), -1);
        x.hatch();
        DUE.is("22 by", x.shortest(0, 0), -1);
        DUE.is("23 by", x.honest(0, 0), -1);
        HatchLights y = DUE.told("word a moves 5;word b moves 6;word c moves 4;word d moves 9;word e moves 9;"
                + "comer p road 0 says a;worth moved-28;");
        DUE.is("22 four", y.shortest(0, 0), 4);
        DUE.is("22 four", y.shortest(0, 1), 27);
        HatchLights z = DUE.told("word a moves 1;word b moves 1;word c moves 1;word d moves 1;word e moves 1;"
                + "comer p road 0 says a;worth many-4;");
        DUE.is("22 never five", z.shortest(0, 0), -1);
        HatchLights one = DUE.told("word a moves 1;word b moves 30;word c moves 30;comer p road 0 says a;");
        DUE.is("22 the least set", one.shortest(0, 1), 2);
    }

    private static void lying(HatchLights x, String what, int... due) {
        DUE.is(what + " how many", x.about(15), due.length);
        for (int i = 0; i < due.length; i++) {
            DUE.is(what + " " + i, x.lies(i), due[i]);
        }
        for (int i : new int[] {-1, due.length, LOW, HIGH}) {
            DUE.is("43 " + what + " no " + i, x.lies(i), -1);
        }
    }

    private static void soonest() {
        HatchLights x = DUE.told("roads 2;word a moves 20;comer p road 1 says a;comer q road 1 says a;comer r road 0 says a;");
        DUE.is("24", x.soonest(), 3);
        lying(x, "24", 0, 1, 1);
        x.open(1);
        DUE.is("24 goes on", x.soonest(), 2);
        lying(x, "24", 0, 1);
        x.open(1);
        x.open(0);
        DUE.is("24 all are", x.soonest(), 0);
        lying(x, "24 all are");
        HatchLights y = DUE.told("roads 2;word a moves 20;comer p road 1 says a;worth waited>1;");
        DUE.is("24 to nobody", y.soonest(), 3);
        lying(y, "24 to nobody", 0, 0, 1);
        HatchLights seven = DUE.told("roads 4;word a moves 20;comer p road 1 says a;worth waited>5;");
        DUE.is("24 seven", seven.soonest(), 7);
        lying(seven, "24 seven", 0, 0, 0, 0, 0, 0, 1);
        seven.humour(3);
        lying(seven, "43 stays", 0, 0, 0, 0, 0, 0, 1);
        HatchLights eight = DUE.told("roads 4;word a moves 20;comer p road 1 says a;comer q road 1 says a;worth waited>5;");
        eight.rivals(0, 1);
        DUE.is("27 rests, so that something lies there", eight.about(15), 2);
        DUE.is("24 not enough", eight.soonest(), -1);
        lying(eight, "24 not enough");
        HatchLights first = DUE.told("roads 2;word a moves 10 tires 1;word b moves 30;comer p road 0 says a;"
                + "comer q road 1 says a;comer r road 1 says b a;worth moved-8;");
        DUE.is("24 who needs it first", first.soonest(), 3);
        lying(first, "24 who needs it first", 0, 1, 1);
        HatchLights whims = DUE.told("roads 2;word a moves 20;comer p road 1 says a;whim 100;");
        DUE.is("24 no whims", whims.soonest(), 1);
        lying(whims, "24 no whims", 1);
    }

    private static void best() {
        HatchLights x = DUE.told("roads 3;word a moves 20;comer p road 0 says a;comer q road 0 says a;");
        DUE.is("25 his own", x.best(0, 0), 0);
        DUE.is("25 his own", x.best(0, 1), 1);
        DUE.is("25 another", x.best(1, 0), 1);
        DUE.is("25 another", x.best(1, 1), 2);
        DUE.is("25 no what", x.best(1, 2), -1);
        DUE.is("25 no comer", x.best(2, 0), -1);
        DUE.is("25 nothing done", x.comer(1, 0), 0);
        x.hatch();
        DUE.is("25 by now", x.best(0, 0), -1);
        DUE.is("25 from that at hand", x.best(1, 1), 1);
        DUE.is("25 by none", four().best(3, 0), -1);
    }

    private static void lull() {
        HatchLights x = DUE.told("word a moves 10 tires 4;word b moves 3;word c moves 0 tires 2;word d moves 0;"
                + "word e moves 8 tires 4;comer p road 0 says a;");
        int[] due = {3, -1, 0, 0, 2, -1};
        for (int w = 0; w < due.length; w++) {
            DUE.is("26 " + w, x.lull(w), due[w]);
        }
        DUE.is("26 -1", x.lull(-1), -1);
        x.hatch();
        DUE.is("26 heard once", x.lull(0), 2);
    }

    private static void rivals() {
        HatchLights x = DUE.told("roads 2;word a moves 20 tires 11;word b moves 10;comer p road 0 says b;comer q road 1 says b;"
                + "comer r road 0 says a;");
        DUE.is("27", x.rivals(0, 1), 3);
        lying(x, "27", 0, 1);
        DUE.is("27 the other way", x.rivals(1, 0), 3);
        lying(x, "27 the other way", 0, 1);
        DUE.is("27 one", x.rivals(1, 1), -1);
        lying(x, "27 one");
        x.rivals(0, 1);
        DUE.is("27 no comer", x.rivals(0, 3), -1);
        lying(x, "27 no comer");
        x.rivals(0, 1);
        DUE.is("27 no comer", x.rivals(-1, 0), -1);
        lying(x, "27 no comer");
        DUE.is("27 nothing done", x.comer(0, 2), 2);
        x.hatch();
        DUE.is("27 by", x.rivals(0, 1), -1);
        // p is by at once by a, and never by b; q, alone then, is by b, and never by a
        HatchLights none = DUE.told("roads 1;word a moves 3;word b moves 4;comer p road 0 says a;comer q road 0 says b;"
                + "worth (behind > 0) and (moved = 3) or (behind = 0) and (moved = 4) and (waited < 2);");
        DUE.is("27 one rest", none.rivals(0, 1), 1);
        lying(none, "27 one rest", 0, 1);
        // q is by at hatch 2 if he says another word than p, p at hatch 3 if he says the same
        HatchLights never = DUE.told("roads 2;word a moves 10 tires 5;word b moves 10 tires 5;comer p road 0 says a;"
                + "comer q road 1 says a;worth waited = 1 and moved = 10 or waited = 2 and moved = 0;");
        never.humour(3);
        never.undo();
        DUE.is("27 no rest", never.rivals(0, 1), 0);
        lying(never, "27 no rest");
        // by 20 hatches p is by, by 21 he is as never
        HatchLights late = DUE.told("roads 1;word a moves 3;word b moves 4;comer p road 0 says a;comer q road 0 says b;"
                + "worth waited > 18 and moved = 3 or waited > 20 and moved = 4;");
        DUE.is("27 twenty hatches", late.rivals(0, 1), 2);
        lying(late, "27 twenty hatches", 0, 0);
        DUE.is("27 twenty hatches, the other way", late.rivals(1, 0), 2);
        lying(late, "27 twenty hatches, the other way", 0, 0);
        DUE.is("27 q says another one", late.rehearse(1, 1), 0);
    }

    private static void sparkAndDrop() {
        HatchLights x = four();
        DUE.is("29 word", x.spark(1, 0), 0);
        DUE.is("29 worth", x.spark(1, 1), 4);
        DUE.is("29 of like ones", DUE.told("word a moves 1;word b moves 2;word c moves 2;comer p road 0 says a;").spark(0, 0), 1);
        DUE.is("29 no what", x.spark(1, 2), NO);
        DUE.is("29 no comer", x.spark(4, 0), NO);
        DUE.is("33 word", x.drop(2, 0), 1);
        DUE.is("33 worth", x.drop(2, 1), 1);
        DUE.is("33 one alone", x.drop(1, 0), NO);
        DUE.is("33 no what", x.drop(2, 2), NO);
        DUE.is("33 no comer", x.drop(4, 0), NO);
        DUE.is("33 of like ones", DUE.told("word a moves 1;word b moves 2;word c moves 2;comer p road 0 says a b c;worth 0-many;").drop(0, 0), 0);
        x.rehearse(1, 15);
        DUE.is("29 four already", x.spark(1, 0), NO);
        DUE.is("33 of four", x.drop(1, 0), 2);
        DUE.is("33 of four", x.drop(1, 1), 11);
        x.hatch();
        DUE.is("29 by", x.spark(0, 0), NO);
        x.rehearse(2, 1);
        x.open(1);
        DUE.is("33 by", x.drop(0, 1), NO);
        DUE.is("29 says all", DUE.told("word a moves 1;comer p road 0 says a;").spark(0, 0), NO);
    }

    private static void spends() {
        HatchLights x = four();
        DUE.is("30", x.spends(0), 5);
        DUE.is("30 never", x.spends(1), -1);
        DUE.is("30 none such", x.spends(4), -1);
        x.hatch();
        DUE.is("30 by now", x.spends(0), -1);
        HatchLights y = DUE.told("roads 1;word a moves 7;comer p road 0 says a;comer q road 0 says a;worth moved+waited-10;keeps 1+waited;");
        // p is heard at hatches 1, 3, 5, q at 2, 4: waited 0, 2, 4 and 1, 3; q at 6 with 5
        DUE.is("30 p", y.spends(0), 1 + 3 + 5);
        DUE.is("30 q", y.spends(1), 2 + 4 + 6);
    }

    private static void coaxAndLaw() {
        DUE.is("32", mood("mood-60").coax(0), 61);
        DUE.is("32 least", mood("50-mood").coax(0), 0);
        DUE.is("32 99", mood("mood-98").coax(0), 99);
        DUE.is("32 by none", mood("mood-99").coax(0), -1);
        DUE.is("32 none such", mood("1").coax(2), -1);
        HatchLights x = mood("mood-60+moved");
        DUE.is("39", x.law(60), 2);
        DUE.is("39", x.law(58), 1);
        DUE.is("39", x.law(0), 0);
        DUE.is("39 -1", x.law(-1), -1);
        DUE.is("39 100", x.law(100), -1);
        DUE.is("39 99", x.law(99), 2);
        x.humour(99);
        x.hatch();
        DUE.is("32 by", x.coax(0), -1);
        DUE.is("39 not of those by", x.law(99), 1);
    }

    private static HatchLights mood(String worth) {
        return DUE.told("word a moves 5;word b moves 1;comer p road 0 says a;comer q road 1 says b;worth " + worth + ";");
    }

    private static void reorder() {
        HatchLights x = DUE.told("roads 1;word a moves 5;word b moves 20;comer p road 0 says a;comer q road 0 says b;"
                + "comer r road 0 says b;");
        DUE.is("35 first", x.reorder(3, 0), 0);
        DUE.is("35 other", x.reorder(3, 1), 2);
        DUE.is("35 press", x.reorder(3, 2), 4);
        DUE.is("35 of like ones", x.reorder(1, 1), 1);
        DUE.is("35 of like ones", x.reorder(1, 2), 2);
        DUE.is("35 none is less", x.reorder(0, 0), -1);
        DUE.is("35 no what", x.reorder(3, 3), -1);
        DUE.is("35 no what", x.reorder(3, -1), -1);
        DUE.is("35 nothing done", x.comer(0, 1), 0);
        HatchLights y = DUE.told("roads 2;word a moves 5;word b moves 20;comer p road 0 says a;comer q road 1 says b;");
        DUE.is("35 not in one row", y.reorder(9, 0), -1);
        HatchLights z = DUE.told("roads 2;word a moves 5;word b moves 20;comer p road 0 says b;comer q road 0 says a;comer r road 1 says a;");
        z.turn(0, 1);
        DUE.is("35 in one row alone", z.reorder(2, 0), 0);
        DUE.is("35 in one row alone", z.reorder(2, 1), 2);
        DUE.is("35 in one row alone", z.reorder(2, 2), 5);
    }

    private static void lookRound() {
        HatchLights x = four();
        DUE.is("37 r is first in his row", x.ready(), 5);
        DUE.is("38 of like ones", x.oldest(), 0);
        DUE.is("40 of like ones", x.fashion(), 0);
        x.hatch();
        DUE.is("37 a tired", x.ready(), 0);
        DUE.is("38", x.oldest(), 1);
        DUE.is("40", x.fashion(), 1);
        DUE.is("40 without words", none().fashion(), -1);
        DUE.is("40 with none there", DUE.told("word a moves 1;word b moves 1;").fashion(), 0);
        DUE.is("38 all by", none().oldest(), -1);
        HatchLights y = DUE.told("roads 2;word a moves 1;comer p road 0 says a;comer q road 1 says a;worth 1;");
        y.hatch();
        y.hatch();
        DUE.is("38 all by", y.oldest(), -1);
        DUE.is("37 all by", y.ready(), 0);
        DUE.is("40 all by", y.fashion(), 0);
        DUE.is("36 all by", y.jam(), 0);
        HatchLights z = DUE.told("roads 2;word a moves 1;comer p road 0 says a;comer q road 0 says a;worth behind;");
        DUE.is("37 the first alone", z.ready(), 1);
    }

    private static void odds() {
        HatchLights x = DUE.told("whim 20;");
        int[] upper = {1, 4, 16, 64, 256};
        int[] lower = {1, 5, 25, 125, 625};
        for (int n = 0; n < 5; n++) {
            DUE.is("42 upper " + n, x.odds(n, 0), upper[n]);
            DUE.is("42 lower " + n, x.odds(n, 1), lower[n]);
        }
        DUE.is("42 5", x.odds(5, 0), -1);
        DUE.is("42 -1", x.odds(-1, 0), -1);
        DUE.is("42 no part", x.odds(1, 2), -1);
        DUE.is("42 no part", x.odds(1, -1), -1);
        DUE.is("42 no whims", none().odds(4, 0), 1);
        DUE.is("42 no whims", none().odds(4, 1), 1);
        HatchLights all = DUE.told("whim 100;");
        DUE.is("42 0", all.odds(1, 0), 0);
        DUE.is("42 of 1", all.odds(4, 1), 1);
        DUE.is("42 in none", all.odds(0, 0), 1);
        HatchLights one = DUE.told("whim 1;");
        DUE.is("42 99 to the fourth", one.odds(4, 0), 96059601);
        DUE.is("42 100 to the fourth", one.odds(4, 1), 100000000);
    }

    private static void seen() {
        HatchLights x = DUE.told("roads 1;word a moves 3;word k moves 50;comer p road 0 says k;");
        DUE.is("47 all", x.fits(0), 100);
        DUE.is("48 least of all", x.sure(0, 0), 0);
        DUE.is("48 greatest of all", x.sure(1, 0), 99);
        DUE.is("49 hatches", x.ask(0, 0), 1);
        DUE.is("49 left", x.ask(1, 0), 90);
        DUE.is("46", x.later(5), 5);
        DUE.is("44 first", x.seen(1, 0, true), 0);
        DUE.is("47 known at 5", x.fits(5), 90);
        DUE.is("47 known at 4", x.fits(4), 100);
        DUE.is("47 known at any", x.fits(HIGH), 90);
        DUE.is("47 known at none", x.fits(LOW), 100);
        DUE.is("48 least", x.sure(0, 5), 10);
        DUE.is("49 no more to know", x.ask(0, 5), 0);
        DUE.is("49 no more to know", x.ask(1, 5), 90);
        x.later(3);
        DUE.is("45", x.untell(0), true);
        DUE.is("45 already", x.untell(0), false);
        DUE.is("45 none such", x.untell(1), false);
        DUE.is("45 none such", x.untell(-1), false);
        DUE.is("47 known at 7", x.fits(7), 90);
        DUE.is("47 known at 8", x.fits(8), 100);
        DUE.is("44 second", x.seen(20, 0, false), 1);
        DUE.is("47 was not", x.fits(8), 10);
        DUE.is("48 greatest", x.sure(1, 8), 9);
        DUE.is("44 third", x.seen(0, 0, true), 2);
        DUE.is("47 none fits", x.fits(8), 0);
        DUE.is("48 none fits", x.sure(0, 8), -1);
        DUE.is("49 none fits", x.ask(0, 8), -1);
        DUE.is("45 the same time", x.untell(2), true);
        DUE.is("47 never counted", x.fits(8), 10);
        DUE.is("48 no what", x.sure(2, 8), -1);
        DUE.is("49 no what", x.ask(2, 8), -1);
        DUE.is("49 no what", x.ask(-1, 8), -1);
        DUE.is("44 21 hatches", x.seen(21, 0, true), -1);
        DUE.is("44 -1 hatches", x.seen(-1, 0, true), -1);
        DUE.is("44 no comer", x.seen(1, 1, true), -1);
        DUE.is("44 no words", none().seen(0, 0, true), -1);
        DUE.is("47 no words", none().fits(0), 0);
        DUE.is("48 no words", none().sure(0, 0), -1);
        DUE.is("49 no words", none().ask(0, 0), -1);
        for (int i = 3; i < 30; i++) {
            DUE.is("44 more", x.seen(1, 0, false), i);
        }
        DUE.is("44 thirty are there", x.seen(1, 0, false), -1);
        x.untell(29);
        DUE.is("44 thirty are there still", x.seen(1, 0, false), -1);
        DUE.is("44 how many", x.about(11), 30);
        x.rehearse(0, 1);
        x.humour(1);
        DUE.is("47 of the crossing as told", x.fits(8), 10);
    }

    private static void seenTired() {
        // The last word's moves at first are not known, and it tires: p at hatch 1, q at 2, r at 3, then p again
        HatchLights x = DUE.told("roads 1;word k moves 99 tires 10;comer p road 0 says k;comer q road 0 says k;comer r road 0 says k;whim 100;");
        DUE.is("49 parts best", x.ask(0, 0), 3);
        // none 0..9, p alone 10..19, p and q 20..29, all 30..99
        DUE.is("49 left", x.ask(1, 0), 70);
        x.seen(3, 2, false);
        DUE.is("47 below thirty", x.fits(0), 30);
        DUE.is("49 then", x.ask(0, 0), 2);
        DUE.is("49 then", x.ask(1, 0), 10);
        x.seen(3, 1, true);
        DUE.is("48 twenty", x.sure(0, 0), 20);
        DUE.is("48 twenty nine", x.sure(1, 0), 29);
    }

    private static void later() {
        HatchLights x = none();
        DUE.is("46 0", x.later(0), 0);
        DUE.is("46 1001", x.later(1001), -1);
        DUE.is("46 -1", x.later(-1), -1);
        DUE.is("46 highest", x.later(HIGH), -1);
        for (int i = 1; i <= 99; i++) {
            x.later(1000);
        }
        DUE.is("46 999", x.later(999), 99999);
        DUE.is("46 above", x.later(2), -1);
        DUE.is("46 to the last", x.later(1), 100000);
        DUE.is("46 beyond", x.later(1), -1);
        DUE.is("46 stays", x.later(0), 100000);
        DUE.is("52 time", x.about(12), 100000);
    }

    private static void images() {
        HatchLights x = four();
        DUE.is("51 nothing was", x.back(0), -1);
        DUE.is("50 no box", x.image(3), -1);
        DUE.is("50 no box", x.image(-1), -1);
        x.hatch();
        x.hatch();
        DUE.is("50", x.image(2), 2);
        x.hatch();
        x.rehearse(1, 15);
        x.turn(1, 2);
        x.humour(3);
        x.revive(0);
        DUE.is("50 another", x.image(0), 3);
        x.undo();
        DUE.is("51", x.back(2), 2);
        state(x, "51", 1, 98, 15, 2, 2, 181, 0, 0);
        DUE.is("51 reason", x.comer(1, 2), 2);
        DUE.is("51 road", x.comer(1, 0), 0);
        DUE.is("51 waited", x.comer(1, 3), 2);
        DUE.is("51 moves", x.word(0, 0), 2);
        DUE.is("51 nothing to undo", x.undo(), false);
        DUE.is("51 nothing to redo", x.redo(), false);
        x.hatch();
        DUE.is("51 once more", x.back(2), 2);
        DUE.is("51 the other", x.back(0), 3);
        DUE.is("51 mood", x.about(4), 3);
        DUE.is("51 moves", x.word(0, 0), 10);
        DUE.is("51 empty", x.back(1), -1);
        DUE.is("51 no box", x.back(3), -1);
        DUE.is("51 no box", x.back(-1), -1);
        x.hatch();
        x.undo();
        DUE.is("51 gone on from", x.about(6), 3);
    }

    private static void about() {
        HatchLights x = four();
        x.later(4);
        x.seen(1, 1, true);
        x.hatch();
        x.hatch();
        x.undo();
        x.feed(1, 2, 3, 4, 5);
        DUE.is("24 not in seven", x.soonest(), -1);
        x.rivals(1, 2);
        int[] due = {4, 4, 3, 1, 99, 5, 1, 1, 30, 1, 1, 1, 4, 20, 0, 2};
        for (int what = 0; what < due.length; what++) {
            DUE.is("52 " + what, x.about(what), due[what]);
        }
        for (int what : new int[] {-1, 16, LOW, HIGH}) {
            DUE.is("52 " + what, x.about(what), -1);
        }
    }

    public static void main(String[] args) {
        word();
        comer();
        worth();
        keeps();
        row();
        hatch();
        whims();
        open();
        lastHatch();
        rehearse();
        turn();
        revive();
        humour();
        undo();
        undoMany();
        ahead();
        reasons();
        soonest();
        best();
        lull();
        rivals();
        sparkAndDrop();
        spends();
        coaxAndLaw();
        reorder();
        lookRound();
        odds();
        seen();
        seenTired();
        later();
        images();
        about();
        DUE.end();
    }
}
