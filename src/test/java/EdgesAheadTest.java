import java.io.IOException;
import java.util.function.IntUnaryOperator;

/** Promises 19 to 43 and part 3 of "Terms": every sentence that names a boundary has a test of its own. */
public final class EdgesAheadTest {
    private static final String T = "Terms 3";
    private static final int NO = -1000000000;
    private static final int LOW = Sentences.LOW;
    private static final int HIGH = Sentences.HIGH;
    private static final int[] NOT_AHEAD = {-1, 61, LOW, HIGH};
    private static Sentences s;

    // ---- helpers

    /** One comer on one road who is let by at the n-th hatch and not before; each keeps 2 minutes. */
    private static HatchLights late(int n) {
        return s.told("roads 1;word a moves 1;comer p road 0 says a;worth waited+2>" + n + ";keeps 2;");
    }

    /** p and q in one row, r alone; p and r would be let by at first, then a has tired. */
    private static HatchLights rows() {
        return s.told("roads 3;word a moves 10 tires 4;word b moves 3;word c moves 0 tires 2;word d moves 7 tires 3;"
                + "comer p road 0 says a;comer q road 0 says b;comer r road 1 says a b;draw 7;");
    }

    /** Eight in the last road's row, by what they are worth. */
    private static HatchLights eight(String worth) {
        StringBuilder text = new StringBuilder("word a moves 30;word b moves 0;");
        for (int i = 0; i < 8; i++) {
            text.append("comer ").append((char) ('a' + i)).append(" road 3 says ").append(i < 7 ? "b" : "a").append(';');
        }
        return s.told(text + "worth " + worth + ";keeps 1;");
    }

    private static HatchLights allBy() {
        HatchLights x = s.told("roads 2;word a moves 1;word b moves 1;comer p road 0 says a b;comer q road 1 says a;worth 1;");
        x.hatch();
        x.hatch();
        return x;
    }

    /** p on road 0, who is let by for what is told. */
    private static HatchLights one(String words, String says, String worth) {
        return s.told("roads 1;" + words + "comer p road 0 says " + says + ";worth " + worth + ";");
    }

    private static final String FIVE = "word a moves 5;word b moves 6;word c moves 4;word d moves 9;word e moves 9;";

    private static void notAhead(String call, IntUnaryOperator byN) {
        for (int n : NOT_AHEAD) {
            s.is(call + " of n " + n, byN.applyAsInt(n), -1);
        }
    }

    private static void lying(HatchLights x, String when, int... due) {
        s.is(when + ": about(15)", x.about(15), due.length);
        for (int i = 0; i < due.length; i++) {
            s.is(when + ": lies(" + i + ")", x.lies(i), due[i]);
        }
        s.is(when + ": lies(" + due.length + ")", x.lies(due.length), -1);
    }

    /** Every call that only looks at what is or lies ahead. */
    private static void askAll(HatchLights x) {
        for (int n = 0; n <= 60; n += 60) {
            x.will(n, 0);
            x.will(n, 1);
            x.clock(n);
            x.press(n);
            x.echoes(0, n);
            x.clears(0, n);
            x.reorder(n, 2);
            x.temper(n);
        }
        x.when(0);
        x.when(1);
        x.shortest(0, 1);
        x.honest(1, 0);
        x.best(1, 0);
        x.lull(0);
        x.spark(0, 0);
        x.spends(0);
        x.coax(0);
        x.drop(2, 0);
        x.jam();
        x.ready();
        x.oldest();
        x.law(3);
        x.fashion();
        x.odds(4, 1);
        x.fits(0);
        x.sure(0, 0);
        x.ask(0, 0);
    }

    // ---- Terms 3: what all of it has

    private static void common() {
        s.hold(T, "By what is now; nothing is done", () -> {
            HatchLights x = rows();
            x.hatch();
            x.humour(3);
            x.undo();
            int[] before = Sentences.look(x);
            askAll(x);
            s.alike("behind all that asks", Sentences.look(x), before);
            x.soonest();
            x.rivals(1, 2);
            int[] then = Sentences.look(x);
            for (int i = 0; i < then.length - 8; i++) {
                if (i != 15) {
                    s.is("behind soonest and rivals: look " + i, then[i], before[i]);
                }
            }
            s.is("when(1) by what is now", x.when(1), -1);
            x.rehearse(1, 10);
            s.is("when(1) by what is then", x.when(1), 3);
        });
        s.hold(T, "no WHIMS, if not told otherwise", () -> {
            HatchLights x = s.told("roads 2;word a moves 20 tires 1;word b moves 1;comer p road 0 says a;comer q road 1 says a;"
                    + "comer r road 1 says b;whim 100;keeps 3;worth moved-9;");
            s.is("will(2, 0)", x.will(2, 0), 3);
            s.is("will(2, 1)", x.will(2, 1), 0);
            s.is("when(1)", x.when(1), 2);
            s.is("temper(2)", x.temper(2), 52);
            s.is("press(2)", x.press(2), 3);
            s.is("best(1, 1)", x.best(1, 1), 2);
            s.is("spends(0)", x.spends(0), 3);
            s.is("echoes(0, 9)", x.echoes(0, 9), 2);
            s.is("clears(1, 9)", x.clears(1, 9), 2);
            s.is("jam()", x.jam(), 4);
            s.is("reorder(2, 2)", x.reorder(2, 2), -1);
            x.rehearse(2, 1);
            s.is("soonest()", x.soonest(), 3);
            s.is("rivals(0, 1)", x.rivals(0, 1), 1);
        });
        s.hold(T, "HATCHES to the ROADS one behind the other, from that at hand on", () -> {
            HatchLights x = s.told("roads 3;word a moves 50;comer p road 0 says a;comer q road 1 says a;comer r road 2 says a;");
            for (int comer = 0; comer < 3; comer++) {
                s.is("when(" + comer + ")", x.when(comer), comer + 1);
            }
            HatchLights y = s.told("roads 3;word a moves 50;comer p road 0 says a;comer q road 1 says a;comer r road 2 says a;worth hatch>0;");
            y.open(1);
            int[] due = {2, 3, 1};
            for (int comer = 0; comer < 3; comer++) {
                s.is("when(" + comer + ") from road 2 on", y.when(comer), due[comer]);
            }
            s.is("will(1, 0)", y.will(1, 0), 4);
            s.is("will(2, 1)", y.will(2, 1), 5);
            s.is("clears(2, 1)", y.clears(2, 1), 4);
            s.is("press(3)", y.press(3), 3);
        });
        s.hold(T, "What lies ahead goes on as told beyond the last hatch, too.", () -> {
            // More calls than the document speaks of: there is no other way to the last hatch.
            HatchLights x = s.told("roads 1;word a moves 1;comer p road 0 says a;worth hatch>1000;keeps hatch-998;");
            for (int i = 0; i < 999; i++) {
                x.hatch();
            }
            s.is("about(6)", x.about(6), 999);
            s.is("when(0)", x.when(0), 3);
            s.is("will(2, 0)", x.will(2, 0), 0);
            s.is("will(3, 0)", x.will(3, 0), 1);
            s.is("clock(3)", x.clock(3), 6);
            s.is("spends(0)", x.spends(0), 6);
            s.is("soonest()", x.soonest(), 3);
            s.is("best(0, 1)", x.best(0, 1), 3);
            s.is("temper(3)", x.temper(3), 1);
            s.is("press(9)", x.press(9), 2);
            s.is("jam()", x.jam(), 0);
        });
    }

    // ---- promises 19 to 21

    private static void willWhenClock() {
        s.hold("Promise 19", "Who is BY behind n HATCHES (0 .. 60), as bits", () -> {
            s.is("will(0, 0) at first", late(1).will(0, 0), 0);
            s.is("will(1, 0)", late(1).will(1, 0), 1);
            s.is("will(59, 0)", late(60).will(59, 0), 0);
            s.is("will(60, 0)", late(60).will(60, 0), 1);
            s.is("will(60, 1)", late(60).will(60, 1), 1);
            s.is("will(60, 0) of one more", late(61).will(60, 0), 0);
            s.is("will(0, 0) of all by", allBy().will(0, 0), 3);
            s.is("will(60, 1) of all by", allBy().will(60, 1), 3);
            s.is("will(4, 0) of eight", eight("1").will(4, 0), 1);
            s.is("will(32, 0) of eight", eight("1").will(32, 0), 255);
            s.is("will(60, 0) of none", new HatchLights().will(60, 0), 0);
        });
        s.hold("Promise 19", "WHIMS as the SEED tells (what 1), none (0)", () -> {
            HatchLights x = s.told("roads 1;word a moves 50;comer p road 0 says a;whim 31;draw 7;");
            s.is("will(1, 1)", x.will(1, 1), 0);
            s.is("will(2, 1)", x.will(2, 1), 1);
            s.is("will(1, 0)", x.will(1, 0), 1);
            HatchLights y = s.told("roads 1;word a moves 50;comer p road 0 says a;whim 30;draw 7;");
            s.is("will(1, 1) of rest 30", y.will(1, 1), 1);
            HatchLights z = s.told("roads 2;word a moves 50;comer p road 1 says a;whim 81;draw 7;");
            s.is("will(2, 1), nobody at first", z.will(2, 1), 1);
            HatchLights w = s.told("roads 2;word a moves 50;comer p road 1 says a;whim 82;draw 7;");
            s.is("will(2, 1), a whim then", w.will(2, 1), 0);
            s.is("hatch()", w.hatch(), -1);
            s.is("will(1, 1) from the seed on", w.will(1, 1), 0);
            s.is("hatch()", w.hatch(), -1);
        });
        s.hold("Promise 19", "NONE if one can't be", () -> {
            HatchLights x = late(1);
            notAhead("will(n, 0)", n -> x.will(n, 0));
            notAhead("will(n, 1)", n -> x.will(n, 1));
            for (int what : new int[] {-1, 2, LOW, HIGH}) {
                s.is("will(1, " + what + ")", x.will(1, what), -1);
            }
        });
        s.hold(T, "WHEN: behind how many HATCHES a COMER is BY.", () -> {
            HatchLights x = s.told("roads 2;word a moves 20 tires 10;comer p road 1 says a;comer q road 0 says a;comer r road 0 says a;worth moved-9+waited;");
            // q at 1 (20), p at 2 (10 and waited 1), r at 3 (0 and waited 2) not, at 11 (0 and waited 10).
            s.is("when(1)", x.when(1), 1);
            s.is("when(0)", x.when(0), 2);
            s.is("when(2)", x.when(2), 11);
        });
        s.hold("Promise 20", "WHEN (0: he is; 60 at most)", () -> {
            s.is("when(0) of one who is", allBy().when(0), 0);
            s.is("when(0)", late(1).when(0), 1);
            s.is("when(0)", late(59).when(0), 59);
            s.is("when(0)", late(60).when(0), 60);
            s.is("when(7) of eight", eight("1").when(7), 32);
        });
        s.hold("Promise 20", "NONE if he is not by then, or there is none such", () -> {
            s.is("when(0)", late(61).when(0), -1);
            HatchLights x = allBy();
            for (int comer : new int[] {-1, 2, 8, LOW, HIGH}) {
                s.is("when(" + comer + ")", x.when(comer), -1);
            }
            s.is("when(0) of none", new HatchLights().when(0), -1);
            s.is("when(8) of eight", eight("1").when(8), -1);
        });
        s.hold("Promise 21", "Minutes behind n HATCHES (0 .. 60)", () -> {
            HatchLights x = late(99);
            s.is("clock(0)", x.clock(0), 0);
            s.is("clock(1)", x.clock(1), 2);
            s.is("clock(60)", x.clock(60), 120);
            x.hatch();
            s.is("clock(0) then", x.clock(0), 2);
            s.is("clock(60) then", x.clock(60), 122);
            s.is("clock(60), by at the third", late(3).clock(60), 6);
            s.is("clock(60) of none", new HatchLights().clock(60), 0);
            HatchLights most = s.told("roads 1;word a moves 1;comer p road 0 says a;worth 0;keeps 9999;");
            s.is("clock(60) at most", most.clock(60), 59940);
        });
        s.hold("Promise 21", "NONE for another n", () -> notAhead("clock(n)", late(3)::clock));
    }

    // ---- promises 22 and 23

    private static void shortestAndHonest() {
        s.hold(T, "SHORT for a COMER: the fewest WORDS of all that have WORTH above 0 for him as things are now; of like ones the least set as bits.", () -> {
            HatchLights x = one(FIVE, "c", "moved-9");
            s.is("shortest(0, 0)", x.shortest(0, 0), 2);
            s.is("shortest(0, 1)", x.shortest(0, 1), 3);
            s.is("shortest(0, 1), above 0", one(FIVE, "c", "moved-8").shortest(0, 1), 8);
            s.is("shortest(0, 1), more words are no less", one(FIVE, "c", "1").shortest(0, 1), 1);
            s.is("shortest(0, 1), not the greatest worth", one(FIVE, "a", "moved-5").shortest(0, 1), 2);
            s.is("shortest(0, 1), not his own words alone", one("word a moves 1;word b moves 12;", "a", "moved-9").shortest(0, 1), 2);
            HatchLights tired = one("word a moves 20 tires 15;word b moves 12;", "a", "(moved-9)*(waited>0)");
            s.is("shortest(0, 1) at first", tired.shortest(0, 1), -1);
            tired.hatch();
            s.is("shortest(0, 1) then", tired.shortest(0, 1), 2);
        });
        s.hold(T, "HONEST: the fewest of those that he was told to say at first; likewise.", () -> {
            HatchLights x = one(FIVE, "a c e", "moved-9");
            s.is("honest(0, 0)", x.honest(0, 0), 2);
            s.is("honest(0, 1)", x.honest(0, 1), 17);
            s.is("honest(0, 1)", one(FIVE, "a c d e", "moved-12").honest(0, 1), 9);
            x.rehearse(0, 8);
            s.is("honest(0, 1), told to say at first", x.honest(0, 1), 17);
            s.is("honest(0, 1), fewer than all", one(FIVE, "a c", "1").honest(0, 1), 1);
            s.is("honest(0, 1), fewer than all", one(FIVE, "c e", "moved-8").honest(0, 1), 16);
        });
        s.hold("Promise 22", "SHORT what 0: how many, 1: which, as bits", () -> {
            HatchLights x = one(FIVE, "a", "moved-28");
            s.is("shortest(0, 0)", x.shortest(0, 0), 4);
            s.is("shortest(0, 1)", x.shortest(0, 1), 27);
            HatchLights last = one("word a moves 0;word b moves 0;word c moves 0;word d moves 0;word e moves 0;word f moves 0;"
                    + "word g moves 0;word h moves 1;", "a", "moved");
            s.is("shortest(0, 0)", last.shortest(0, 0), 1);
            s.is("shortest(0, 1)", last.shortest(0, 1), 128);
        });
        s.hold("Promise 22", "NONE if no set of 1 to 4 WORDS has", () -> {
            HatchLights x = one(FIVE, "a", "many-4");
            s.is("shortest(0, 0)", x.shortest(0, 0), -1);
            s.is("shortest(0, 1)", x.shortest(0, 1), -1);
            s.is("shortest(0, 0) of four", one(FIVE, "a", "many-3").shortest(0, 0), 4);
            s.is("shortest(0, 0), none said", one(FIVE, "a", "many=0").shortest(0, 0), -1);
            s.is("shortest(0, 0) of worth 0", one(FIVE, "a", "0").shortest(0, 0), -1);
        });
        s.hold("Promise 22", "he is BY, or one can't be", () -> {
            HatchLights x = allBy();
            s.is("shortest(0, 0) of one who is by", x.shortest(0, 0), -1);
            HatchLights y = one(FIVE, "a", "1");
            for (int comer : new int[] {-1, 1, 8, LOW, HIGH}) {
                s.is("shortest(" + comer + ", 0)", y.shortest(comer, 0), -1);
            }
            for (int what : new int[] {-1, 2, LOW, HIGH}) {
                s.is("shortest(0, " + what + ")", y.shortest(0, what), -1);
            }
            s.is("shortest(0, 0) of none", new HatchLights().shortest(0, 0), -1);
        });
        s.hold("Promise 23", "HONEST what 0, 1: likewise.", () -> {
            HatchLights x = one(FIVE, "b c d e", "moved-27");
            s.is("honest(0, 0) of all four", x.honest(0, 0), 4);
            s.is("honest(0, 1)", x.honest(0, 1), 30);
            s.is("honest(0, 0), no set has", one(FIVE, "b c d e", "moved-28").honest(0, 0), -1);
            s.is("honest(0, 1), no set has", one(FIVE, "a", "moved-5").honest(0, 1), -1);
            s.is("honest(0, 0) of one who is by", allBy().honest(0, 0), -1);
            for (int comer : new int[] {-1, 1, 8, LOW, HIGH}) {
                s.is("honest(" + comer + ", 1)", x.honest(comer, 1), -1);
            }
            for (int what : new int[] {-1, 2, LOW, HIGH}) {
                s.is("honest(0, " + what + ")", x.honest(0, what), -1);
            }
        });
    }

    // ---- promises 24 to 26

    private static void soonest() {
        s.hold(T, "SOONEST: the fewest HATCHES (7 at most) so that all are BY, to whichever ROADS", () -> {
            HatchLights x = s.told("roads 4;word a moves 20;comer p road 3 says a;comer q road 3 says a;comer r road 1 says a;");
            s.is("soonest()", x.soonest(), 3);
            lying(x, "to whichever", 1, 3, 3);
            HatchLights y = s.told("roads 4;word a moves 20;comer p road 3 says a;worth waited>1;");
            s.is("soonest()", y.soonest(), 3);
            lying(y, "to nobody, too", 0, 0, 3);
            s.is("soonest()", late(7).soonest(), 7);
        });
        s.hold(T, "of like ones the first (HATCH by HATCH)", () -> {
            HatchLights x = s.told("roads 3;word a moves 20;comer p road 2 says a;comer q road 0 says a;comer r road 1 says a;");
            x.open(0);
            x.undo();
            s.is("soonest()", x.soonest(), 3);
            lying(x, "all orders do", 0, 1, 2);
            // q must be first: a tires below what he needs; then p and r in whichever order.
            HatchLights y = s.told("roads 3;word a moves 10 tires 1;word b moves 30;comer p road 0 says b;comer q road 2 says a;"
                    + "comer r road 1 says a b;worth moved-9;");
            s.is("soonest()", y.soonest(), 3);
            lying(y, "q ahead of r", 0, 2, 1);
        });
        s.hold("Promise 24", "SOONEST: how many HATCHES (0: all are BY)", () -> {
            s.is("soonest() of none", new HatchLights().soonest(), 0);
            HatchLights x = allBy();
            s.is("soonest() of all by", x.soonest(), 0);
            lying(x, "all are by");
            s.is("soonest() of one", late(1).soonest(), 1);
        });
        s.hold("Promise 24", "NONE if 7 are not enough", () -> {
            s.is("soonest() of 7", late(7).soonest(), 7);
            s.is("soonest() of 8", late(8).soonest(), -1);
            s.is("soonest() of eight comers", eight("1").soonest(), -1);
            HatchLights seven = eight("1");
            seven.open(3);
            s.is("soonest() of seven comers", seven.soonest(), 7);
            lying(seven, "seven comers", 3, 3, 3, 3, 3, 3, 3);
            s.is("soonest() of worth 0", eight("0").soonest(), -1);
        });
        s.hold("Promise 24", "ROADS lie there then, in order (behind NONE: nothing)", () -> {
            HatchLights x = late(8);
            x.hatch();
            s.is("soonest()", x.soonest(), 7);
            lying(x, "seven", 0, 0, 0, 0, 0, 0, 0);
            x.undo();
            s.is("soonest()", x.soonest(), -1);
            lying(x, "behind NONE");
        });
    }

    private static void bestAndLull() {
        s.hold(T, "BEST ROAD of a COMER: that (his own, where he stays as he is, or another one) by which he is BY soonest (60 HATCHES at most); of like ones the first.", () -> {
            HatchLights x = s.told("roads 3;word a moves 20;comer p road 0 says a;comer q road 0 says a;comer r road 0 says a;comer t road 1 says a;");
            s.is("best(0, 0), as he is", x.best(0, 0), 0);
            s.is("best(0, 1), as he is", x.best(0, 1), 1);
            s.is("best(1, 0), another one", x.best(1, 0), 2);
            s.is("best(1, 1), another one", x.best(1, 1), 3);
            s.is("best(3, 0)", x.best(3, 0), 1);
            HatchLights far = s.told("roads 2;word a moves 1;comer p road 0 says a;worth waited>58;");
            s.is("best(0, 0), at the 60th", far.best(0, 0), 1);
            s.is("best(0, 1), at the 60th", far.best(0, 1), 60);
        });
        s.hold("Promise 25", "BEST ROAD what 0: it, 1: behind how many HATCHES", () -> {
            HatchLights x = eight("1");
            s.is("best(7, 0)", x.best(7, 0), 0);
            s.is("best(7, 1)", x.best(7, 1), 1);
            x.open(3);
            x.open(0);
            s.is("best(7, 0), from that at hand on", x.best(7, 0), 1);
            s.is("best(7, 1)", x.best(7, 1), 1);
            HatchLights y = eight("1");
            y.open(2);
            s.is("best(0, 0)", y.best(0, 0), 3);
            s.is("best(0, 1)", y.best(0, 1), 1);
        });
        s.hold("Promise 25", "NONE if he is not BY by any in 60", () -> {
            s.is("best(0, 1)", late(60).best(0, 1), 60);
            s.is("best(0, 0)", late(61).best(0, 0), -1);
            s.is("best(0, 1)", late(61).best(0, 1), -1);
        });
        s.hold("Promise 25", "he is BY now, or one can't be", () -> {
            HatchLights x = allBy();
            s.is("best(0, 0)", x.best(0, 0), -1);
            s.is("best(0, 1)", x.best(0, 1), -1);
            HatchLights y = late(1);
            for (int comer : new int[] {-1, 1, 8, LOW, HIGH}) {
                s.is("best(" + comer + ", 0)", y.best(comer, 0), -1);
            }
            for (int what : new int[] {-1, 2, LOW, HIGH}) {
                s.is("best(0, " + what + ")", y.best(0, what), -1);
            }
        });
        s.hold(T, "LULL of a WORD: how often it can be HEARD till it moves him no more.", () -> {
            int[][] due = {{10, 4, 3}, {8, 4, 2}, {7, 4, 2}, {4, 4, 1}, {1, 99, 1}, {99, 1, 99}, {99, 99, 1}, {99, 98, 2}};
            for (int[] word : due) {
                HatchLights x = one("word a moves " + word[0] + " tires " + word[1] + ";", "a", "0");
                s.is("lull(0) of " + word[0] + " and " + word[1], x.lull(0), word[2]);
                x.hatch();
                s.is("lull(0) heard once", x.lull(0), word[2] - 1);
            }
        });
        s.hold("Promise 26", "NONE if it tires nothing (0 if it does not move him now), or there is none such.", () -> {
            HatchLights x = one("word a moves 1;word b moves 0;word c moves 0 tires 5;word d moves 5 tires 5;", "d", "0");
            int[] due = {-1, 0, 0, 1};
            for (int word = 0; word < 4; word++) {
                s.is("lull(" + word + ")", x.lull(word), due[word]);
            }
            x.hatch();
            s.is("lull(3), tired", x.lull(3), 0);
            for (int word : new int[] {-1, 4, 8, LOW, HIGH}) {
                s.is("lull(" + word + ")", x.lull(word), -1);
            }
            s.is("lull(0) of none", new HatchLights().lull(0), -1);
        });
    }

    // ---- promise 27

    private static HatchLights two(String worth) {
        return s.told("roads 1;word a moves 3;word b moves 4;comer p road 0 says a;comer q road 0 says b;worth " + worth + ";");
    }

    private static void rivals() {
        s.hold(T, "RIVALS: two who are not BY each say one WORD alone now", () -> {
            HatchLights x = s.told("roads 1;word a moves 3;word b moves 4;comer p road 0 says a b;comer q road 0 says a b;worth many=1 and moved=4;");
            s.is("rivals(0, 1)", x.rivals(0, 1), 1);
            lying(x, "b alone", 1, 1);
            s.is("comer(0, 2) is not told anew", x.comer(0, 2), 3);
        });
        s.hold(T, "at RESTS neither, the other one's staying so, would do better by another WORD", () -> {
            // Each is let by at once by whichever word: nobody would do better.
            HatchLights all = two("1");
            s.is("rivals(0, 1), all alike", all.rivals(0, 1), 4);
            lying(all, "the first of all", 0, 0);
            // p is let by at once; q at the second, if both say a, at the fourth, if he alone does.
            HatchLights same = s.told("roads 2;word a moves 10 tires 5;word b moves 10;comer p road 0 says a;comer q road 1 says b;worth hatch=0 or moved=5;");
            s.is("rivals(0, 1), a of q", same.rivals(0, 1), 2);
            lying(same, "a and a, b and a", 0, 0);
            s.is("rivals(1, 0), a of q", same.rivals(1, 0), 2);
            lying(same, "a and a, a and b", 0, 0);
            // p wants the word that q says, q another one than p says.
            HatchLights none = s.told("roads 2;word a moves 10 tires 5;word b moves 10 tires 5;comer p road 0 says a;"
                    + "comer q road 1 says a;worth waited = 1 and moved = 10 or waited = 2 and moved = 0;");
            s.is("rivals(0, 1), none", none.rivals(0, 1), 0);
            lying(none, "behind 0");
        });
        s.hold(T, "to be BY sooner (in 20 HATCHES, else as behind 21) is better; all alike else.", () -> {
            // Both are heard in turn, p at 1, 3, .. 19, 21, q at 2, 4, .. 20; at the k-th they waited k - 1.
            HatchLights twenty = two("waited>18 and moved=3");
            s.is("rivals(0, 1), q at the 20th", twenty.rivals(0, 1), 2);
            lying(twenty, "q at the 20th", 0, 0);
            HatchLights later = two("waited>19 and moved=3");
            s.is("rivals(0, 1), p at the 21st is as never", later.rivals(0, 1), 4);
            HatchLights sooner = two("waited>17 and moved=4 or waited>15 and moved=3");
            // q: at 18 by a (waited 17), at 20 by b; p: at 17 by a (waited 16), at 19 by b (waited 18)
            s.is("rivals(0, 1), sooner is better", sooner.rivals(0, 1), 1);
            lying(sooner, "sooner is better", 0, 0);
        });
        s.hold("Promise 27", "RIVALS: how many RESTS", () -> {
            HatchLights x = two("moved=3");
            s.is("rivals(0, 1)", x.rivals(0, 1), 1);
            s.is("rivals(1, 0)", x.rivals(1, 0), 1);
            StringBuilder words = new StringBuilder("roads 1;");
            for (char c = 'a'; c < 'i'; c++) {
                words.append("word ").append(c).append(" moves 1;");
            }
            HatchLights many = s.told(words + "comer p road 0 says a;comer q road 0 says h;worth 1;");
            s.is("rivals(0, 1) of eight words", many.rivals(0, 1), 64);
        });
        s.hold("Promise 27", "NONE if both are one, one is BY, there are no WORDS, or one can't be", () -> {
            HatchLights x = two("1");
            s.is("rivals(0, 0)", x.rivals(0, 0), -1);
            s.is("rivals(1, 1)", x.rivals(1, 1), -1);
            for (int comer : new int[] {-1, 2, 8, LOW, HIGH}) {
                s.is("rivals(0, " + comer + ")", x.rivals(0, comer), -1);
                s.is("rivals(" + comer + ", 1)", x.rivals(comer, 1), -1);
                s.is("rivals of both", x.rivals(comer, comer), -1);
            }
            x.hatch();
            s.is("rivals(0, 1), p by", x.rivals(0, 1), -1);
            s.is("rivals(1, 0), p by", x.rivals(1, 0), -1);
            s.is("rivals(0, 1) of no words", new HatchLights().rivals(0, 1), -1);
        });
        s.hold("Promise 27", "The WORDS of the first of these lie there then (the first one's, the other one's; of like ones the least numbers", () -> {
            HatchLights x = s.told("roads 2;word a moves 20 tires 11;word b moves 10;comer p road 0 says b;comer q road 1 says b;");
            s.is("rivals(0, 1)", x.rivals(0, 1), 3);
            lying(x, "a and b, b and a, b and b", 0, 1);
            HatchLights y = two("behind=1 and moved=3 or behind=0 and moved=4");
            s.is("rivals(0, 1)", y.rivals(0, 1), 1);
            lying(y, "p's, q's", 0, 1);
            s.is("rivals(1, 0)", y.rivals(1, 0), 1);
            lying(y, "q's, p's", 1, 0);
        });
        s.hold("Promise 27", "behind 0, NONE: nothing", () -> {
            HatchLights x = s.told("roads 2;word a moves 10 tires 5;word b moves 10 tires 5;comer p road 0 says a;"
                    + "comer q road 1 says a;worth hatch>1 or waited = 1 and moved = 10;");
            s.is("rivals(0, 1)", x.rivals(0, 1) > 0, true);
            s.is("about(15)", x.about(15), 2);
            s.is("rivals(0, 0)", x.rivals(0, 0), -1);
            lying(x, "behind NONE");
            HatchLights none = s.told("roads 2;word a moves 10 tires 5;word b moves 10 tires 5;comer p road 0 says a;"
                    + "comer q road 1 says a;worth waited = 1 and moved = 10 or waited = 2 and moved = 0 or hatch = 4 or hatch = 5;");
            s.is("soonest()", none.soonest() > 0, true);
            s.is("about(15) > 0", none.about(15) > 0, true);
            s.is("rivals(0, 1)", none.rivals(0, 1), 0);
            lying(none, "behind 0");
        });
    }

    // ---- promises 28 to 31

    private static void pressToEchoes() {
        s.hold(T, "PRESS of n HATCHES: how often all who are not BY WAIT in these together.", () -> {
            HatchLights x = rows();
            // p is let by at the first, r at the second not any more.
            s.is("press(1)", x.press(1), 2);
            s.is("press(2)", x.press(2), 4);
            s.is("press(60) of all eight", eight("0").press(60), 480);
            s.is("press(60) of none", new HatchLights().press(60), 0);
            s.is("press(60) of all by", allBy().press(60), 0);
            HatchLights y = s.told("roads 1;word a moves 1;comer p road 0 says a;comer q road 0 says a;worth 1;");
            s.is("press(60), the last does not wait", y.press(60), 1);
        });
        s.hold("Promise 28", "PRESS (n 0 .. 60)", () -> {
            HatchLights x = late(99);
            s.is("press(0)", x.press(0), 0);
            s.is("press(1)", x.press(1), 1);
            s.is("press(60)", x.press(60), 60);
            s.is("press(60), by at the 60th", late(60).press(60), 59);
        });
        s.hold("Promise 28", "NONE for another n", () -> notAhead("press(n)", late(3)::press));
        s.hold(T, "SPARK of a COMER: the WORD that he does not say by which, said, too (if he says fewer than 4), the WORTH of his REASON is most; of like ones the first.", () -> {
            HatchLights x = one(FIVE, "d", "moved-9");
            s.is("spark(0, 0)", x.spark(0, 0), 4);
            s.is("spark(0, 1)", x.spark(0, 1), 9);
            s.is("spark(0, 0) of like ones", one(FIVE, "a", "moved-9").spark(0, 0), 3);
            s.is("spark(0, 1) of three", one(FIVE, "a b c", "moved").spark(0, 1), 24);
            s.is("spark(0, 0) of four", one(FIVE, "a b c d", "moved").spark(0, 0), NO);
            s.is("spark(0, 0), all alike", one(FIVE, "a", "0-many").spark(0, 0), 1);
            s.is("spark(0, 1), below 0", one(FIVE, "a", "0-many*100").spark(0, 1), -200);
            s.is("spark(0, 0), the least is no less", one(FIVE, "a", "8192*8192*32").spark(0, 0), 1);
            s.is("spark(0, 1), the least is no less", one(FIVE, "a", "8192*8192*32").spark(0, 1), LOW);
        });
        s.hold("Promise 29", "SPARK what 0: the WORD, 1: WORTH then", () -> {
            HatchLights x = one("word a moves 3;word b moves 4;", "b", "moved*10+many");
            s.is("spark(0, 0)", x.spark(0, 0), 0);
            s.is("spark(0, 1)", x.spark(0, 1), 72);
            s.is("comer(0, 2)", x.comer(0, 2), 2);
        });
        s.hold("Promise 29", "-1000000000 if there is none, he is BY, or one can't be", () -> {
            s.is("spark(0, 0), he says all", one("word a moves 3;word b moves 4;", "a b", "0").spark(0, 0), NO);
            s.is("spark(0, 1), he says four", one(FIVE, "e d c b", "0").spark(0, 1), NO);
            s.is("spark(1, 0) of one who is by", allBy().spark(1, 0), NO);
            HatchLights x = one(FIVE, "a", "0");
            for (int comer : new int[] {-1, 1, 8, LOW, HIGH}) {
                s.is("spark(" + comer + ", 0)", x.spark(comer, 0), NO);
            }
            for (int what : new int[] {-1, 2, LOW, HIGH}) {
                s.is("spark(0, " + what + ")", x.spark(0, what), NO);
            }
        });
        s.hold("Promise 30", "Minutes that he himself KEEPS till he is BY (60 HATCHES at most)", () -> {
            s.is("spends(0)", late(1).spends(0), 2);
            s.is("spends(0)", late(60).spends(0), 120);
            HatchLights x = s.told("roads 1;word a moves 7;comer p road 0 says a;comer q road 0 says a;worth moved+waited-10;keeps 1+waited;");
            s.is("spends(0), p at 1, 3, 5", x.spends(0), 9);
            s.is("spends(1), q at 2, 4, 6", x.spends(1), 12);
            x.hatch();
            s.is("spends(0) then", x.spends(0), 8);
            HatchLights y = s.told("roads 3;word a moves 7;comer p road 1 says a;comer q road 2 says a;worth waited>3;keeps 1+waited;");
            s.is("spends(0), p at 2, 5", y.spends(0), 7);
            s.is("spends(1), q at 3, 6", y.spends(1), 9);
        });
        s.hold("Promise 30", "NONE if he is not by then, he is BY now, or there is none such", () -> {
            s.is("spends(0)", late(61).spends(0), -1);
            HatchLights x = allBy();
            for (int comer : new int[] {0, 1, -1, 2, 8, LOW, HIGH}) {
                s.is("spends(" + comer + ")", x.spends(comer), -1);
            }
        });
        s.hold("Promise 31", "How often a WORD is HEARD in n HATCHES (0 .. 60)", () -> {
            HatchLights x = rows();
            // p is let by at 1 (a), r is heard at 2, 5 (a, b), q at 4 (b), nobody at 3.
            int[][] due = {{0, 0, 0}, {1, 1, 0}, {2, 2, 1}, {3, 2, 1}, {4, 2, 2}, {5, 3, 3}};
            for (int[] n : due) {
                s.is("echoes(0, " + n[0] + ")", x.echoes(0, n[0]), n[1]);
                s.is("echoes(1, " + n[0] + ")", x.echoes(1, n[0]), n[2]);
                s.is("echoes(3, " + n[0] + ")", x.echoes(3, n[0]), 0);
            }
            s.is("echoes(0, 60)", late(99).echoes(0, 60), 60);
            s.is("echoes(0, 60), let by", late(7).echoes(0, 60), 7);
        });
        s.hold("Promise 31", "NONE if one can't be", () -> {
            HatchLights x = rows();
            notAhead("echoes(0, n)", n -> x.echoes(0, n));
            for (int word : new int[] {-1, 4, 8, LOW, HIGH}) {
                s.is("echoes(" + word + ", 0)", x.echoes(word, 0), -1);
            }
        });
    }

    // ---- promises 32 to 36

    private static void coaxAndDrop() {
        s.hold("Promise 32", "The least MOOD (0 .. 99) by which his REASON were WORTH more than 0 now", () -> {
            String[] e = {"1", "mood", "mood-1", "mood-60", "mood-98", "50-mood", "mood=7", "moved-(90-mood)"};
            int[] due = {0, 1, 2, 61, 99, 0, 7, 86};
            for (int i = 0; i < e.length; i++) {
                HatchLights x = one(FIVE, "a", e[i]);
                s.is("coax(0) of " + e[i], x.coax(0), due[i]);
                s.is("about(4)", x.about(4), 50);
            }
            HatchLights now = one("word a moves 20 tires 7;", "a", "moved-(90-mood)");
            now.hatch();
            s.is("coax(0) now", now.coax(0), 78);
        });
        s.hold("Promise 32", "NONE if it is by none, he is BY, or there is none such", () -> {
            s.is("coax(0), more than 99", one(FIVE, "a", "mood-99").coax(0), -1);
            s.is("coax(0), worth 0", one(FIVE, "a", "0").coax(0), -1);
            HatchLights x = allBy();
            for (int comer : new int[] {0, 1, -1, 2, 8, LOW, HIGH}) {
                s.is("coax(" + comer + ")", x.coax(comer), -1);
            }
        });
        s.hold("Promise 33", "The WORD of his REASON (of 2 at least) without which its WORTH is most; of like ones the first: what 0: it, 1: WORTH then", () -> {
            HatchLights x = one(FIVE, "a c", "moved-9");
            s.is("drop(0, 0)", x.drop(0, 0), 2);
            s.is("drop(0, 1)", x.drop(0, 1), -4);
            HatchLights four = one(FIVE, "b c d e", "100-moved");
            s.is("drop(0, 0) of like ones", four.drop(0, 0), 3);
            s.is("drop(0, 1)", four.drop(0, 1), 81);
            s.is("drop(0, 0), all alike", one(FIVE, "c d e", "many").drop(0, 0), 2);
            s.is("drop(0, 1), the least is no less", one(FIVE, "c d", "8192*8192*32").drop(0, 1), LOW);
            x.rehearse(0, 24);
            s.is("drop(0, 0), his reason now", x.drop(0, 0), 3);
            s.is("comer(0, 2)", x.comer(0, 2), 24);
        });
        s.hold("Promise 33", "-1000000000 if he says one alone, is BY, or one can't be", () -> {
            s.is("drop(0, 0), one alone", one(FIVE, "a", "1").drop(0, 0), NO);
            s.is("drop(0, 0) of one who is by", allBy().drop(0, 0), NO);
            HatchLights x = one(FIVE, "a b", "1");
            for (int comer : new int[] {-1, 1, 8, LOW, HIGH}) {
                s.is("drop(" + comer + ", 0)", x.drop(comer, 0), NO);
            }
            for (int what : new int[] {-1, 2, LOW, HIGH}) {
                s.is("drop(0, " + what + ")", x.drop(0, what), NO);
            }
        });
    }

    private static void clearsToJam() {
        s.hold("Promise 34", "Those in a row now who are BY behind n HATCHES (0 .. 60), as bits", () -> {
            HatchLights x = s.told("roads 2;word a moves 50;comer p road 0 says a;comer q road 0 says a;comer r road 1 says a;");
            int[][] due = {{0, 0, 0}, {1, 1, 0}, {2, 1, 4}, {3, 3, 4}, {60, 3, 4}};
            for (int[] n : due) {
                s.is("clears(0, " + n[0] + ")", x.clears(0, n[0]), n[1]);
                s.is("clears(1, " + n[0] + ")", x.clears(1, n[0]), n[2]);
            }
            x.hatch();
            s.is("clears(0, 60), p is in it no more", x.clears(0, 60), 2);
            x.turn(1, 1);
            s.is("clears(0, 60) of an empty row", x.clears(0, 60), 0);
            s.is("clears(1, 60)", x.clears(1, 60), 6);
            s.is("clears(0, 59)", late(60).clears(0, 59), 0);
            s.is("clears(0, 60)", late(60).clears(0, 60), 1);
        });
        s.hold("Promise 34", "NONE if one can't be", () -> {
            HatchLights x = rows();
            notAhead("clears(0, n)", n -> x.clears(0, n));
            for (int road : new int[] {-1, 3, 4, LOW, HIGH}) {
                s.is("clears(" + road + ", 0)", x.clears(road, 0), -1);
            }
        });
        s.hold("Promise 35", "The two in one row by whose exchange of places PRESS of n (0 .. 60) is least, if it is less than as it is", () -> {
            HatchLights x = s.told("roads 1;word a moves 5;word b moves 20;comer p road 0 says a;comer q road 0 says b;comer r road 0 says b;");
            int[][] due = {{3, 0, 2, 4}, {60, 0, 2, 61}, {2, 0, 2, 3}};
            for (int[] n : due) {
                for (int what = 0; what < 3; what++) {
                    s.is("reorder(" + n[0] + ", " + what + ")", x.reorder(n[0], what), n[1 + what]);
                }
            }
            s.is("reorder(0, 0), no less", x.reorder(0, 0), -1);
            s.is("reorder(60, 2), all alike", s.told("roads 1;word a moves 5;comer p road 0 says a;comer q road 0 says a;").reorder(60, 2), -1);
            HatchLights apart = s.told("roads 2;word a moves 5;word b moves 20;comer p road 0 says a;comer q road 1 says b;worth moved-19;");
            s.is("reorder(1, 0), in two rows", apart.reorder(1, 0), -1);
            apart.turn(1, 0);
            s.is("reorder(1, 1), in one row", apart.reorder(1, 1), 1);
            HatchLights turned = s.told("roads 2;word a moves 5;word b moves 20;comer p road 0 says b;comer q road 0 says a;comer r road 1 says a;");
            turned.turn(0, 1);
            s.is("reorder(2, 0), p behind r", turned.reorder(2, 0), 0);
            s.is("reorder(2, 1), p behind r", turned.reorder(2, 1), 2);
            s.is("reorder(2, 2), p behind r", turned.reorder(2, 2), 5);
            // Both are by in three hatches either way: p from the second on, q at any.
            HatchLights both = s.told("roads 1;word a moves 1;word b moves 2;comer p road 0 says a;comer q road 0 says b;worth moved=1 and hatch>0 or moved=2;");
            s.is("press(3)", both.press(3), 3);
            s.is("reorder(3, 0), both by", both.reorder(3, 0), 0);
            s.is("reorder(3, 1), both by", both.reorder(3, 1), 1);
            s.is("reorder(3, 2), both by", both.reorder(3, 2), 1);
        });
        s.hold("Promise 35", "of like ones the first (the lesser number, then the other one)", () -> {
            HatchLights x = s.told("roads 1;word a moves 5;word b moves 20;comer p road 0 says a;comer q road 0 says b;comer r road 0 says b;");
            s.is("reorder(1, 0)", x.reorder(1, 0), 0);
            s.is("reorder(1, 1)", x.reorder(1, 1), 1);
            s.is("reorder(1, 2)", x.reorder(1, 2), 2);
            HatchLights y = s.told("roads 2;word a moves 5;word b moves 20;comer p road 1 says a;comer q road 0 says a;comer r road 0 says b;comer t road 1 says b;");
            s.is("reorder(2, 0)", y.reorder(2, 0), 1);
            s.is("reorder(2, 1)", y.reorder(2, 1), 2);
            HatchLights like = s.told("roads 2;word a moves 5;word b moves 20;comer p road 1 says a;comer q road 0 says a;comer r road 0 says b;comer t road 1 says b;"
                    + "worth (moved-9)*(hatch>0);");
            like.open(0);
            s.is("reorder(2, 0), from road 1 on", like.reorder(2, 0), 0);
            s.is("reorder(2, 1), from road 1 on", like.reorder(2, 1), 3);
        });
        s.hold("Promise 35", "what 0: the first one, 1: the other one, 2: PRESS then", () -> {
            HatchLights x = eight("moved-9");
            x.open(2);
            s.is("reorder(1, 0)", x.reorder(1, 0), 0);
            s.is("reorder(1, 1)", x.reorder(1, 1), 7);
            s.is("reorder(1, 2)", x.reorder(1, 2), 7);
            s.is("comer(0, 1), nothing is done", x.comer(0, 1), 0);
        });
        s.hold("Promise 35", "NONE if there are none, or one can't be", () -> {
            s.is("reorder(60, 0) of none", new HatchLights().reorder(60, 0), -1);
            s.is("reorder(60, 0) of one", late(3).reorder(60, 0), -1);
            s.is("reorder(60, 0) of all by", allBy().reorder(60, 0), -1);
            HatchLights x = s.told("roads 1;word a moves 5;word b moves 20;comer p road 0 says a;comer q road 0 says b;");
            s.is("reorder(1, 0)", x.reorder(1, 0), 0);
            for (int what = 0; what < 3; what++) {
                int asked = what;
                notAhead("reorder(n, " + what + ")", n -> x.reorder(n, asked));
            }
            for (int what : new int[] {-1, 3, LOW, HIGH}) {
                s.is("reorder(1, " + what + ")", x.reorder(1, what), -1);
            }
        });
        s.hold(T, "JAM: COMERS who are not BY behind 60 HATCHES.", () -> {
            s.is("jam()", late(60).jam(), 0);
            s.is("jam()", late(61).jam(), 1);
        });
        s.hold("Promise 36", "JAM, as bits.", () -> {
            s.is("jam() of none", new HatchLights().jam(), 0);
            s.is("jam() of all by", allBy().jam(), 0);
            s.is("jam() of eight", eight("0").jam(), 255);
            s.is("jam() of eight but the last", eight("moved-9").jam(), 127);
        });
    }

    // ---- promises 37 to 43

    private static void readyToTemper() {
        s.hold("Promise 37", "COMERS who are first in their rows and whose REASON is WORTH more than 0 now, as bits.", () -> {
            HatchLights x = s.told("word a moves 10;word b moves 9;comer p road 0 says b;comer q road 0 says a;comer r road 1 says a;comer t road 3 says a;");
            s.is("ready()", x.ready(), 12);
            x.hatch();
            s.is("ready(), q is first", x.ready(), 14);
            x.hatch();
            s.is("ready(), r is by", x.ready(), 10);
            s.is("ready() of eight", eight("1").ready(), 1);
            s.is("ready() of worth 0", eight("0").ready(), 0);
            s.is("ready() of none", new HatchLights().ready(), 0);
            s.is("ready() of all by", allBy().ready(), 0);
        });
        s.hold("Promise 38", "The COMER who is not BY who WAITED most; of like ones the first; NONE if all are BY.", () -> {
            s.is("oldest() of none", new HatchLights().oldest(), -1);
            s.is("oldest() of all by", allBy().oldest(), -1);
            s.is("oldest() at first", rows().oldest(), 0);
            HatchLights x = rows();
            x.clock(60);
            s.is("oldest() behind what lies ahead", x.oldest(), 0);
            x.hatch();
            s.is("oldest(), p is by", x.oldest(), 1);
            HatchLights last = eight("1");
            for (int i = 0; i < 7; i++) {
                last.open(3);
            }
            s.is("oldest() of the last", last.oldest(), 7);
        });
        s.hold("Promise 39", "How many of those who are not BY have a REASON of WORTH above 0 now, if MOODS were n (0 .. 99)", () -> {
            HatchLights x = s.told("roads 2;word a moves 5;word b moves 1;comer p road 0 says a;comer q road 1 says b;worth mood-90+moved;");
            int[][] due = {{0, 0}, {85, 0}, {86, 1}, {89, 1}, {90, 2}, {99, 2}};
            for (int[] n : due) {
                s.is("law(" + n[0] + ")", x.law(n[0]), n[1]);
            }
            s.is("about(4)", x.about(4), 50);
            x.humour(99);
            x.hatch();
            s.is("law(99), p is by", x.law(99), 1);
            s.is("law(0) of eight", eight("mood=0").law(0), 8);
            s.is("law(99) of none", new HatchLights().law(99), 0);
        });
        s.hold("Promise 39", "NONE for another n", () -> {
            HatchLights x = eight("1");
            for (int n : new int[] {-1, 100, LOW, HIGH}) {
                s.is("law(" + n + ")", x.law(n), -1);
            }
        });
        s.hold("Promise 40", "The WORD said by most who are not BY; of like ones the first; NONE without WORDS.", () -> {
            s.is("fashion() of none", new HatchLights().fashion(), -1);
            s.is("fashion() with no comers", s.told("word a moves 1;word b moves 1;").fashion(), 0);
            s.is("fashion() of all by", allBy().fashion(), 0);
            HatchLights x = rows();
            s.is("fashion() of like ones", x.fashion(), 0);
            x.hatch();
            s.is("fashion(), p is by", x.fashion(), 1);
            x.rehearse(1, 8);
            x.rehearse(2, 8);
            s.is("fashion(), rehearsed", x.fashion(), 3);
        });
        s.hold("Promise 41", "MOOD behind n HATCHES (0 .. 60)", () -> {
            HatchLights x = s.told("roads 1;word a moves 1;comer p road 0 says a;mood 59;worth 0;");
            s.is("temper(0)", x.temper(0), 59);
            s.is("temper(1)", x.temper(1), 58);
            s.is("temper(58)", x.temper(58), 1);
            s.is("temper(59)", x.temper(59), 0);
            s.is("temper(60)", x.temper(60), 0);
            HatchLights y = s.told("roads 1;word a moves 1;comer p road 0 says a;mood 98;worth 1;");
            s.is("temper(1)", y.temper(1), 99);
            s.is("temper(60), nobody then", y.temper(60), 99);
            s.is("temper(60) of none", new HatchLights().temper(60), 50);
        });
        s.hold("Promise 41", "NONE for another n", () -> notAhead("temper(n)", late(3)::temper));
    }

    private static void oddsAndLies() {
        s.hold(T, "ODDS: that there is no WHIM in n HATCHES, whatever the SEED is.", () -> {
            HatchLights x = s.told("whim 1;draw 17;");
            s.is("odds(4, 0)", x.odds(4, 0), 96059601);
            s.is("odds(4, 1)", x.odds(4, 1), 100000000);
            x.hatch();
            x.hatch();
            s.is("odds(4, 0), another seed", x.odds(4, 0), 96059601);
            s.is("odds(1, 0), another draw", s.told("whim 1;draw 18;").odds(1, 0), 99);
        });
        s.hold("Promise 42", "ODDS (n 0 .. 4) the upper part (0), the lower part (1), in lowest terms (0 of 1)", () -> {
            int[] whims = {0, 20, 50, 75, 99, 100};
            int[] upper = {1, 4, 1, 1, 1, 0};
            int[] lower = {1, 5, 2, 4, 100, 1};
            for (int i = 0; i < whims.length; i++) {
                HatchLights x = s.told("whim " + whims[i] + ";");
                int up = 1;
                int low = 1;
                for (int n = 0; n <= 4; n++) {
                    s.is("odds(" + n + ", 0) of whim " + whims[i], x.odds(n, 0), up);
                    s.is("odds(" + n + ", 1) of whim " + whims[i], x.odds(n, 1), low);
                    up *= upper[i];
                    low *= lower[i];
                }
            }
        });
        s.hold("Promise 42", "NONE if one can't be", () -> {
            HatchLights x = s.told("whim 20;");
            for (int n : new int[] {-1, 5, LOW, HIGH}) {
                s.is("odds(" + n + ", 0)", x.odds(n, 0), -1);
                s.is("odds(" + n + ", 1)", x.odds(n, 1), -1);
            }
            for (int part : new int[] {-1, 2, LOW, HIGH}) {
                s.is("odds(1, " + part + ")", x.odds(1, part), -1);
            }
        });
        s.hold("Promise 43", "The i-th number of what lies there; NONE if there is none such.", () -> {
            HatchLights x = s.told("roads 2;word a moves 50;comer p road 1 says a;comer q road 0 says a;");
            s.is("lies(0) at first", x.lies(0), -1);
            x.soonest();
            s.is("lies(0)", x.lies(0), 0);
            s.is("lies(1)", x.lies(1), 1);
            for (int i : new int[] {-1, 2, 6, 7, LOW, HIGH}) {
                s.is("lies(" + i + ")", x.lies(i), -1);
            }
            HatchLights seven = late(7);
            seven.soonest();
            s.is("lies(6)", seven.lies(6), 0);
            s.is("lies(7)", seven.lies(7), -1);
        });
    }

    public static void main(String[] args) throws IOException {
        s = new Sentences(args);
        common();
        willWhenClock();
        shortestAndHonest();
        soonest();
        bestAndLull();
        rivals();
        pressToEchoes();
        coaxAndDrop();
        clearsToJam();
        readyToTemper();
        oddsAndLies();
        s.end(Sentences.promises(19, 43, T));
    }
}
