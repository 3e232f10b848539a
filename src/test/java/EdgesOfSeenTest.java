import java.io.IOException;

/** Promises 44 to 49 and part 4 of "Terms": every sentence that names a boundary has a test of its own. */
public final class EdgesOfSeenTest {
    private static final String T = "Terms 4";
    private static final int LOW = Sentences.LOW;
    private static final int HIGH = Sentences.HIGH;
    private static Sentences s;

    // ---- helpers

    /** One comer on one road who says the last word. */
    private static HatchLights one(String worth) {
        return s.told("roads 1;word a moves 3;word k moves 50 tires 1;comer p road 0 says k;worth " + worth + ";");
    }

    /** p, q, r in one row, each lets k tire by ten: 0 to 9 move none by, 10 to 19 p, 20 to 29 p and q, from 30 on all. */
    private static HatchLights three() {
        return s.told("roads 1;word k moves 99 tires 10;comer p road 0 says k;comer q road 0 says k;comer r road 0 says k;");
    }

    private static void fitting(HatchLights x, int k, int many, int least, int greatest) {
        s.is("fits(" + k + ")", x.fits(k), many);
        s.is("sure(0, " + k + ")", x.sure(0, k), least);
        s.is("sure(1, " + k + ")", x.sure(1, k), greatest);
    }

    private static void asking(HatchLights x, int k, int hatches, int left) {
        s.is("ask(0, " + k + ")", x.ask(0, k), hatches);
        s.is("ask(1, " + k + ")", x.ask(1, k), left);
    }

    // ---- Terms 4

    private static void terms() {
        s.hold(T, "SEEN, 30 at most, is TOLD at a TIME (0 at first, goes on)", () -> {
            HatchLights x = one("moved-9");
            s.is("about(12)", x.about(12), 0);
            x.seen(1, 0, true);
            fitting(x, -1, 100, 0, 99);
            fitting(x, 0, 90, 10, 99);
            x.later(5);
            x.seen(1, 0, false);
            fitting(x, 4, 90, 10, 99);
            fitting(x, 5, 0, -1, -1);
            for (int i = 2; i < 30; i++) {
                s.is("seen", x.seen(1, 0, true), i);
            }
            s.is("seen, the 31st", x.seen(1, 0, true), -1);
        });
        s.hold(T, "UNTOLD at a later one or the same", () -> {
            HatchLights x = one("moved-9");
            x.later(5);
            x.seen(1, 0, true);
            s.is("untell(0) at the same", x.untell(0), true);
            fitting(x, 5, 100, 0, 99);
            fitting(x, 4, 100, 0, 99);
            x.seen(1, 0, true);
            x.later(3);
            s.is("untell(1) later", x.untell(1), true);
            fitting(x, 7, 90, 10, 99);
            fitting(x, 8, 100, 0, 99);
        });
        s.hold(T, "of the crossing as it was told (nothing done, no WHIMS)", () -> {
            HatchLights x = s.told("roads 2;word a moves 3;word k moves 50 tires 20;comer p road 0 says k;comer q road 1 says k;whim 100;worth moved-9;");
            s.is("seen", x.seen(2, 1, true), 0);
            fitting(x, 0, 70, 30, 99);
            x.hatch();
            x.hatch();
            x.rehearse(0, 1);
            x.turn(1, 0);
            x.humour(3);
            x.open(1);
            s.is("about(3), whims alone", x.about(3), 0);
            fitting(x, 0, 70, 30, 99);
            x.image(0);
            x.back(0);
            fitting(x, 0, 70, 30, 99);
            asking(x, 0, 0, 70);
            x.untell(0);
            asking(x, 0, 2, 70);
            x.end(0);
            Due.feed(x, "roads 1;word a moves 3;word b moves 4;comer p road 0 says a b;worth moved-99;");
            x.crossing();
            x.seen(1, 0, true);
            fitting(x, 0, 3, 97, 99);
        });
        s.hold(T, "but for the last WORD's MOVES at first, which are not known", () -> {
            HatchLights x = s.told("roads 1;word a moves 5;word b moves 7;word k moves 0;comer p road 0 says a k;comer q road 0 says a b;worth moved-11;");
            x.seen(1, 0, true);
            fitting(x, 0, 93, 7, 99);
            x.seen(2, 1, true);
            fitting(x, 0, 93, 7, 99);
            x.seen(20, 1, false);
            fitting(x, 0, 0, -1, -1);
            s.is("word(2, 0) is as told", x.word(2, 0), 0);
            HatchLights alone = s.told("roads 1;word k moves 0;comer p road 0 says k;worth moved-11;");
            alone.seen(1, 0, true);
            fitting(alone, 0, 88, 12, 99);
        });
        s.hold(T, "that behind so many HATCHES (0 .. 20) a COMER was BY, or was not", () -> {
            HatchLights none = one("1");
            none.seen(0, 0, false);
            fitting(none, 0, 100, 0, 99);
            none.seen(0, 0, true);
            fitting(none, 0, 0, -1, -1);
            HatchLights twenty = one("waited>18 and moved>30");
            twenty.seen(19, 0, false);
            fitting(twenty, 0, 100, 0, 99);
            twenty.seen(20, 0, true);
            // heard nineteen times before: k is nineteen less, or 0
            fitting(twenty, 0, 50, 50, 99);
            twenty.seen(20, 0, false);
            fitting(twenty, 0, 0, -1, -1);
            HatchLights roads = s.told("roads 3;word k moves 0;comer p road 2 says k;worth moved-9;");
            roads.seen(2, 0, false);
            fitting(roads, 0, 100, 0, 99);
            roads.seen(3, 0, false);
            fitting(roads, 0, 10, 0, 9);
        });
        s.hold(T, "As known at k that counts that was TOLD at k or before, not UNTOLD at k or before.", () -> {
            HatchLights x = one("moved-9");
            x.later(10);
            x.seen(1, 0, true);
            x.later(10);
            x.untell(0);
            int[][] due = {{LOW, 100}, {-1, 100}, {0, 100}, {9, 100}, {10, 90}, {19, 90}, {20, 100}, {HIGH, 100}};
            for (int[] k : due) {
                s.is("fits(" + k[0] + ")", x.fits(k[0]), k[1]);
            }
            x.seen(1, 0, false);
            s.is("fits(19)", x.fits(19), 90);
            s.is("fits(20)", x.fits(20), 10);
            s.is("fits of the highest", x.fits(HIGH), 10);
        });
        s.hold(T, "FITS: MOVES (0 .. 99) by which all that counts is so.", () -> {
            String[] e = {"moved=0", "moved=99", "moved>98", "moved<1", "moved>99", "moved+1", "moved=7 or moved=93"};
            int[][] due = {{1, 0, 0}, {1, 99, 99}, {1, 99, 99}, {1, 0, 0}, {0, -1, -1}, {100, 0, 99}, {2, 7, 93}};
            for (int i = 0; i < e.length; i++) {
                HatchLights x = one(e[i]);
                fitting(x, 0, 100, 0, 99);
                x.seen(1, 0, true);
                fitting(x, 0, due[i][0], due[i][1], due[i][2]);
            }
            HatchLights all = three();
            all.seen(3, 1, true);
            all.seen(3, 2, false);
            fitting(all, 0, 10, 20, 29);
        });
        s.hold(T, "ASK: the number of HATCHES (0 .. 20) behind which to know who was BY would leave the fewest of these at the most; of like ones the least.", () -> {
            asking(one("waited>18 and moved>30"), 0, 20, 50);
            asking(one("waited>19 and moved>30"), 0, 0, 100);
            asking(one("moved>49"), 0, 1, 50);
            asking(one("1"), 0, 0, 100);
            asking(three(), 0, 3, 70);
            HatchLights x = three();
            x.seen(20, 2, false);
            asking(x, 0, 2, 10);
            x.seen(20, 0, true);
            asking(x, 0, 2, 10);
            x.seen(20, 1, true);
            asking(x, 0, 0, 10);
            // To know all of them at once: two let by or not make four parts.
            HatchLights parts = s.told("roads 2;word k moves 0;comer p road 0 says k;comer q road 1 says k;worth (behind=0)*(hatch%2=0 and moved%2=1 or hatch%2=1 and moved>49);");
            asking(parts, 0, 2, 25);
            StringBuilder eight = new StringBuilder("roads 1;word k moves 0;");
            for (char c = 'a'; c < 'i'; c++) {
                eight.append("comer ").append(c).append(" road 0 says k;");
            }
            asking(s.told(eight + "worth 1;"), 0, 0, 100);
            // Behind n hatches the first n of eight are by, if k moves him by more than hatch * 10.
            asking(s.told(eight + "worth moved>hatch*10;"), 0, 8, 29);
        });
    }

    // ---- promises 44 to 46

    private static void seenAndUntell() {
        s.hold("Promise 44", "A SEEN (HATCHES 0 .. 20): its number", () -> {
            HatchLights x = three();
            s.is("seen(0, 0, true)", x.seen(0, 0, true), 0);
            s.is("seen(20, 2, false)", x.seen(20, 2, false), 1);
            s.is("seen(20, 2, false) once more", x.seen(20, 2, false), 2);
            x.untell(2);
            s.is("seen(1, 1, true)", x.seen(1, 1, true), 3);
            s.is("about(11)", x.about(11), 4);
        });
        s.hold("Promise 44", "NONE, doing nothing, if one can't be, there are 30, or no WORDS.", () -> {
            HatchLights x = three();
            for (int hatches : new int[] {-1, 21, LOW, HIGH}) {
                s.is("seen(" + hatches + ", 0, true)", x.seen(hatches, 0, true), -1);
            }
            for (int comer : new int[] {-1, 3, 8, LOW, HIGH}) {
                s.is("seen(0, " + comer + ", true)", x.seen(0, comer, true), -1);
            }
            s.is("about(11)", x.about(11), 0);
            fitting(x, 0, 100, 0, 99);
            for (int i = 0; i < 30; i++) {
                s.is("seen", x.seen(1, 0, true), i);
            }
            s.idle("seen, the 31st", x, () -> x.seen(1, 0, false), -1);
            fitting(x, 0, 90, 10, 99);
            x.untell(0);
            s.is("seen, the 31st still", x.seen(1, 0, false), -1);
            fitting(x, 0, 90, 10, 99);
            HatchLights none = new HatchLights();
            s.idle("seen of no words", none, () -> none.seen(0, 0, true), -1);
            s.is("seen with words alone", s.told("word a moves 1;").seen(0, 0, true), -1);
        });
        s.hold("Promise 45", "It is UNTOLD: true", () -> {
            HatchLights x = three();
            for (int i = 0; i < 30; i++) {
                x.seen(1, 0, i < 29);
            }
            fitting(x, 0, 0, -1, -1);
            s.is("untell(29)", x.untell(29), true);
            fitting(x, 0, 90, 10, 99);
            s.is("untell(0)", x.untell(0), true);
            s.is("about(9), no act", x.about(9), 0);
        });
        s.hold("Promise 45", "false if it is so already, or there is none such", () -> {
            HatchLights x = three();
            s.is("untell(0) of none", x.untell(0), false);
            x.seen(1, 0, true);
            for (int seen : new int[] {-1, 1, 29, 30, LOW, HIGH}) {
                s.is("untell(" + seen + ")", x.untell(seen), false);
            }
            fitting(x, 0, 90, 10, 99);
            x.later(3);
            s.is("untell(0)", x.untell(0), true);
            x.later(3);
            s.is("untell(0) again", x.untell(0), false);
            // It stays UNTOLD at 3, not at 6.
            fitting(x, 2, 90, 10, 99);
            fitting(x, 3, 100, 0, 99);
            fitting(x, 6, 100, 0, 99);
        });
        s.hold("Promise 46", "So much later (0 .. 1000): the TIME", () -> {
            HatchLights x = new HatchLights();
            s.is("later(0)", x.later(0), 0);
            s.is("later(1)", x.later(1), 1);
            s.is("later(1000)", x.later(1000), 1001);
            s.is("about(12)", x.about(12), 1001);
        });
        s.hold("Promise 46", "NONE, doing nothing, for another number, or if it would be above 100,000.", () -> {
            HatchLights x = new HatchLights();
            for (int by : new int[] {-1, 1001, LOW, HIGH}) {
                s.idle("later(" + by + ")", x, () -> x.later(by), -1);
            }
            for (int i = 0; i < 99; i++) {
                x.later(1000);
            }
            x.later(999);
            s.idle("later(2) to 100,001", x, () -> x.later(2), -1);
            s.is("later(1) to 100,000", x.later(1), 100000);
            s.idle("later(1) beyond", x, () -> x.later(1), -1);
            s.is("later(0) there", x.later(0), 100000);
        });
    }

    // ---- promises 47 to 49

    private static void fitsSureAsk() {
        s.hold("Promise 47", "FITS: how many (0 without WORDS).", () -> {
            HatchLights none = new HatchLights();
            for (int k : new int[] {0, LOW, HIGH}) {
                s.is("fits(" + k + ")", none.fits(k), 0);
            }
            s.is("fits(0) with words alone", s.told("word a moves 1;").fits(0), 100);
            HatchLights x = one("moved=99");
            s.is("fits(0) of nothing seen", x.fits(0), 100);
            x.seen(1, 0, true);
            s.is("fits(0) of one", x.fits(0), 1);
            x.seen(1, 0, false);
            s.is("fits(0) of none", x.fits(0), 0);
        });
        s.hold("Promise 48", "The least of FITS (what 0), the greatest (1)", () -> {
            HatchLights x = one("moved=5 or moved=7 or moved=60");
            fitting(x, 0, 100, 0, 99);
            x.seen(1, 0, true);
            fitting(x, 0, 3, 5, 60);
            HatchLights last = one("moved=99");
            last.seen(1, 0, true);
            fitting(last, 0, 1, 99, 99);
        });
        s.hold("Promise 48", "NONE if none FITS, or for another what", () -> {
            HatchLights x = one("moved=5");
            for (int what : new int[] {-1, 2, LOW, HIGH}) {
                s.is("sure(" + what + ", 0)", x.sure(what, 0), -1);
            }
            x.seen(0, 0, true);
            fitting(x, 0, 0, -1, -1);
            s.is("sure(0, 0) of no words", new HatchLights().sure(0, 0), -1);
            s.is("sure(1, 0) of no words", new HatchLights().sure(1, 0), -1);
        });
        s.hold("Promise 49", "ASK what 0: the number of HATCHES, 1: how many are left at the most", () -> {
            asking(three(), 0, 3, 70);
            HatchLights x = one("moved=99");
            asking(x, 0, 1, 99);
            x.later(2);
            x.seen(1, 0, true);
            asking(x, 2, 0, 1);
            asking(x, 1, 1, 99);
            asking(s.told("word a moves 1;"), 0, 0, 100);
        });
        s.hold("Promise 49", "NONE if none FITS, or for another what", () -> {
            HatchLights x = one("moved=5");
            for (int what : new int[] {-1, 2, LOW, HIGH}) {
                s.is("ask(" + what + ", 0)", x.ask(what, 0), -1);
            }
            x.seen(0, 0, true);
            asking(x, 0, -1, -1);
            // k tires by one each time: behind n hatches 5 to 4 + n were let by.
            asking(x, -1, 20, 80);
            asking(new HatchLights(), 0, -1, -1);
        });
    }

    public static void main(String[] args) throws IOException {
        s = new Sentences(args);
        terms();
        seenAndUntell();
        fitsSureAsk();
        s.end(Sentences.promises(44, 49, T));
    }
}
