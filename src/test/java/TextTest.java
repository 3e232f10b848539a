/** Promises 1 to 5: the new object, the tape, the crossing's text and its faults. */
public final class TextTest {
    private static final Due DUE = new Due();

    private static void newObject() {
        HatchLights x = new HatchLights();
        int[] about = {0, 0, 4, 0, 50, 0, 0, 0, 0, 0, 0, 0, 0, 0, 0, 0};
        for (int what = 0; what < about.length; what++) {
            DUE.is("new: about(" + what + ")", x.about(what), about[what]);
        }
        DUE.is("new: fault(0)", x.fault(0), 0);
        DUE.is("new: fault(1)", x.fault(1), -1);
        DUE.is("new: row(3)", x.row(3), 0);
        DUE.is("new: row(4)", x.row(4), -1);
    }

    private static void tape() {
        HatchLights x = new HatchLights();
        for (int i = 1; i <= 80; i++) {
            DUE.is("feed " + i, x.feed(0, 0, 0, 0, 0), i * 20);
        }
        DUE.is("feed too much", x.feed(0, 0, 0, 0, 0), -1);
        DUE.is("bytes then", x.about(13), 1600);
        DUE.is("end(1601)", x.end(1601), -1);
        DUE.is("end(-1)", x.end(-1), -1);
        DUE.is("bytes then", x.about(13), 1600);
        DUE.is("end(1600)", x.end(1600), 1600);
        DUE.is("end(1581)", x.end(1581), 1581);
        DUE.is("feed one too much", x.feed(0, 0, 0, 0, 0), -1);
        DUE.is("end(1580)", x.end(1580), 1580);
        DUE.is("feed to the brim", x.feed(0, 0, 0, 0, 0), 1600);
        DUE.is("end(0)", x.end(0), 0);
        DUE.is("end(1) of none", x.end(1), -1);
        // "mood 17;" and twelve blanks: the highest byte of each number first
        DUE.is("feed mood", x.feed(0x6d6f6f64, 0x2031373b, 0x20202020, 0x20202020, 0x20202020), 20);
        DUE.is("crossing of mood", x.crossing(), 0);
        DUE.is("mood", x.about(4), 17);
        DUE.is("the tape is empty then", x.about(13), 0);
    }

    private static void crossing() {
        HatchLights x = DUE.told("roads 3;word a moves 20 tires 2;comer p road 1 says a;mood 3;draw 5;worth moved;");
        x.later(7);
        x.seen(1, 0, true);
        x.image(0);
        x.open(1);
        x.soonest();
        x.rivals(0, 0);
        Due.feed(x, "mood 300;");
        DUE.is("a fault", x.crossing(), -1);
        DUE.is("its sort", x.fault(0), 4);
        DUE.is("its place", x.fault(1), 5);
        DUE.is("fault(2)", x.fault(2), -1);
        DUE.is("fault(-1)", x.fault(-1), -1);
        int[] stays = {1, 1, 3, 1, 4, 5, 1, 2, 756, 1, 0, 1, 7, 9, 1, 0};
        for (int what = 0; what < stays.length; what++) {
            DUE.is("behind a fault about(" + what + ")", x.about(what), stays[what]);
        }
        x.end(0);
        Due.feed(x, "roads 2;word a moves 20;comer p road 1 says a;comer q road 1 says a;");
        DUE.is("a crossing", x.crossing(), 2);
        DUE.is("no fault", x.fault(0), 0);
        DUE.is("no place", x.fault(1), -1);
        int[] anew = {2, 1, 2, 0, 50, 0, 0, 0, 0, 0, 0, 0, 7, 0, 0, 0};
        for (int what = 0; what < anew.length; what++) {
            DUE.is("of a new crossing about(" + what + ")", x.about(what), anew[what]);
        }
        DUE.is("the box is empty", x.back(0), -1);
        DUE.is("no act is kept", x.undo(), false);
        x.soonest();
        DUE.is("two lie there", x.about(15), 2);
        DUE.is("an empty text", x.crossing(), 0);
        DUE.is("none lie there", x.about(15), 0);
        DUE.is("four roads again", x.about(2), 4);
    }

    private static void tokens() {
        DUE.fault("A", 1, 0);
        DUE.fault("mood 1;\t", 1, 7);
        DUE.fault("mood 1;" + (char) 233, 1, 7);
        DUE.fault("mood 1;" + (char) 0, 1, 7);
        DUE.fault("mood 1;!", 1, 7);
        DUE.fault("word abcdefghi moves 1;", 1, 5);
        DUE.fault("mood 12345;", 1, 5);
        DUE.fault("mood 5x;", 1, 5);
        DUE.fault("mood 5 x;", 2, 7);
        DUE.fault("5x", 1, 0);
        DUE.fault("word a moves 0012tires 3;", 1, 13);
        DUE.fault("moods 5;", 2, 0);
        DUE.fault("mood x;A", 2, 5);
        HatchLights x = DUE.told(" \nmood5;word abcdefgh moves0012 tires3;comer abcdefgh\nroad0 says abcdefgh;worth 9999-moved;");
        DUE.is("blanks part them or not", x.about(4), 5);
        DUE.is("0012", x.word(0, 0), 12);
        DUE.is("9999 - 12", x.worth(0), 9987);
    }

    /** The end is where the tape was cut, whatever stood behind it. */
    private static void cut() {
        String[] texts = {"moods 5;", "mood 12;", "mood 5x;", "mood 1;", "mood 12345;"};
        int[] cuts = {4, 6, 6, 6, 9};
        for (int i = 0; i < texts.length; i++) {
            HatchLights x = new HatchLights();
            Due.feed(x, texts[i]);
            x.end(cuts[i]);
            x.crossing();
            DUE.is("cut " + texts[i], x.fault(0), i == 4 ? 4 : 2);
            DUE.is("cut " + texts[i], x.fault(1), i == 4 ? 5 : cuts[i]);
        }
    }

    private static void full() {
        DUE.fault("a".repeat(1600), 1, 0);
        DUE.fault("7".repeat(1600), 1, 0);
        DUE.fault(";".repeat(1600), 2, 0);
        DUE.fault("mood 1;" + " ".repeat(1592) + "x", 2, 1599);
        DUE.fault("mood 1;worth " + " ".repeat(1586) + "5", 2, 1600);
        DUE.fault("worth " + "(".repeat(1594), 2, 13);
        DUE.fault("worth " + "not\n".repeat(398) + "  ", 2, 34);
        DUE.is("full of blanks", DUE.told(" ".repeat(1600)).about(0), 0);
        DUE.is("full", DUE.told("mood" + " ".repeat(1593) + "12;").about(4), 12);
    }

    /** What one crossing told is not there in the next. */
    private static void again() {
        HatchLights x = new HatchLights();
        String[] texts = {"word a moves 5;comer p road 0 says a;worth " + "not not not 1 and ".repeat(14) + "1;keeps " + "1+".repeat(29) + "1;",
            "word a moves 5;comer p road 0 says a;", "word a moves 7 tires 2;comer p road 1 says a;worth (mood", ""};
        for (int i = 0; i < 40; i++) {
            x.end(0);
            Due.feed(x, texts[i % 4]);
            int comers = x.crossing();
            DUE.is("again", comers, new int[] {1, 1, -1, 0}[i % 4]);
            DUE.is("again worth", x.worth(0), new int[] {0, -4, -4, -1000000000}[i % 4]);
            DUE.is("again keeps", x.keeps(0), new int[] {30, 5, 5, -1}[i % 4]);
            DUE.is("again units", x.about(14), new int[] {45, 0, 0, 0}[i % 4]);
        }
    }

    private static void lines() {
        DUE.fault("roads 5;", 4, 6);
        DUE.fault("roads 0;", 4, 6);
        DUE.fault("roads 4", 2, 7);
        DUE.fault("roads 4  ", 2, 9);
        DUE.fault("roads", 2, 5);
        DUE.fault("roads ;", 2, 6);
        DUE.fault("roads 4;roads 4;", 2, 8);
        DUE.fault("mood 4;roads 4;", 2, 7);
        DUE.fault("word a moves 1;roads 4;", 2, 15);
        DUE.fault("mood 100;", 4, 5);
        DUE.fault("mood 4;mood 4;", 2, 7);
        DUE.fault("whim 101;", 4, 5);
        DUE.fault("whim 1;whim 1;", 2, 7);
        DUE.fault("draw 1000;", 4, 5);
        DUE.fault("draw 1;draw 1;", 2, 7);
        DUE.fault("worth 1;worth 1;", 2, 8);
        DUE.fault("keeps 1;keeps 1;", 2, 8);
        DUE.fault(";", 2, 0);
        DUE.fault("says a;", 2, 0);
        DUE.fault("mood 1;;", 2, 7);
        HatchLights x = DUE.told("whim 100;draw 999;mood 99;keeps 0;worth 0;");
        DUE.is("mood 99", x.about(4), 99);
        DUE.is("draw 999", x.about(8), 999);
        DUE.is("units", x.about(14), 2);
        DUE.is("the odds of whim 100", x.odds(1, 0), 0);
    }

    private static void wordLines() {
        DUE.fault("word a moves 100;", 4, 13);
        DUE.fault("word a moves 1 tires 100;", 4, 21);
        DUE.fault("word a moves 1 tires;", 2, 20);
        DUE.fault("word a moves;", 2, 12);
        DUE.fault("word a tires 1;", 2, 7);
        DUE.fault("word a;", 2, 6);
        DUE.fault("word 5 moves 1;", 2, 5);
        DUE.fault("word a moves 1;word a moves 2;", 3, 20);
        String[] reserved = {"roads", "word", "moves", "tires", "comer", "road", "says", "mood", "worth", "keeps", "whim",
            "draw", "or", "and", "not", "moved", "many", "waited", "behind", "hatch"};
        for (String name : reserved) {
            DUE.fault("word " + name + " moves 1;", 2, 5);
        }
        String[] nearly = {"loads", "cord", "doves", "fires", "homer", "load", "days", "food", "north", "peeps", "shim",
            "craw", "ir", "end", "dot", "loved", "zany", "baited", "rehind", "match", "road" + "ss", "wor", "wordy", "m", "an"};
        for (String name : nearly) {
            DUE.is("nearly " + name, DUE.told("word " + name + " moves 1;").about(1), 1);
        }
        String eight = "";
        for (String name : new String[] {"e", "both", "one", "sum", "term", "unit", "line", "tire"}) {
            eight += "word " + name + " moves 99 tires 99;";
        }
        DUE.is("eight words", DUE.told(eight).about(1), 8);
        DUE.fault(eight + "word x moves 1;", 2, eight.length());
        DUE.fault(eight + "word", 2, eight.length());
    }

    private static void comerLines() {
        String a = "word a moves 1;word b moves 1;word c moves 1;word d moves 1;word e moves 1;";
        int n = a.length();
        DUE.fault(a + "comer x road 4 says a;", 4, n + 13);
        DUE.fault("roads 1;" + a + "comer x road 1 says a;", 4, n + 21);
        DUE.fault(a + "comer x road 0 says;", 2, n + 19);
        DUE.fault(a + "comer x road 0;", 2, n + 14);
        DUE.fault(a + "comer x says a;", 2, n + 8);
        DUE.fault(a + "comer mood road 0 says a;", 2, n + 6);
        DUE.fault(a + "comer x road 0 says f;", 5, n + 20);
        DUE.fault(a + "comer x road 0 says x;", 5, n + 20);
        DUE.fault(a + "comer x road 0 says a a;", 3, n + 22);
        DUE.fault(a + "comer x road 0 says a b c d e;", 2, n + 28);
        DUE.fault(a + "comer x road 0 says a b c d a;", 2, n + 28);
        DUE.fault(a + "comer x road 0 says a b c d zz;", 2, n + 28);
        DUE.fault(a + "comer x road 0 says a b mood;", 2, n + 24);
        DUE.fault(a + "comer x road 0 says a 5;", 2, n + 22);
        DUE.fault(a + "comer x road 0 says a;comer x road 0 says a;", 3, n + 28);
        DUE.fault("comer x road 0 says a;word a moves 1;", 5, 20);
        String eight = a;
        for (char c = 'a'; c < 'i'; c++) {
            eight += "comer " + c + " road 3 says e d c b;";
        }
        HatchLights x = DUE.told(eight);
        DUE.is("eight comers", x.about(0), 8);
        DUE.is("the last one's reason", x.comer(7, 2), 30);
        DUE.is("the last one's place", x.comer(7, 1), 7);
        DUE.fault(eight + "comer k road 0 says a;", 2, eight.length());
    }

    private static void formulas() {
        DUE.fault("worth ;", 2, 6);
        DUE.fault("worth", 2, 5);
        DUE.fault("worth 1 < 2 < 3;", 2, 12);
        DUE.fault("worth 1 = 2 > 3;", 2, 12);
        DUE.fault("worth 1 + not 2;", 2, 10);
        DUE.fault("worth 1 < not 2;", 2, 10);
        DUE.fault("worth (1;", 2, 8);
        DUE.fault("worth 1);", 2, 7);
        DUE.fault("worth ();", 2, 7);
        DUE.fault("worth - 1;", 2, 6);
        DUE.fault("worth 1 2;", 2, 8);
        DUE.fault("worth a;", 2, 6);
        DUE.fault("worth 1 or;", 2, 10);
        DUE.fault("worth moves;", 2, 6);
        DUE.fault("worth 1 and or 2;", 2, 12);
        DUE.fault("worth 12345;", 1, 6);
    }

    private static void depth() {
        DUE.told("worth " + "(".repeat(7) + "1" + ")".repeat(7) + ";");
        DUE.fault("worth " + "(".repeat(8) + "1" + ")".repeat(8) + ";", 2, 6 + 7);
        DUE.told("worth " + "not ".repeat(7) + "1;");
        DUE.fault("worth " + "not ".repeat(8) + "1;", 2, 6 + 28);
        DUE.told("worth " + "not(".repeat(3) + "(1" + ")".repeat(4) + ";");
        DUE.fault("worth " + "not(".repeat(3) + "((1" + ")".repeat(5) + ";", 2, 6 + 13);
        DUE.fault("worth " + "not(".repeat(3) + "(not 1" + ")".repeat(4) + ";", 2, 6 + 13);
        DUE.told("worth (not 1) + ((((((not 1)))))) + (1);");
    }

    private static void units() {
        String thirty = "1" + "+1".repeat(29);
        DUE.is("sixty units", DUE.told("worth " + thirty + ";keeps " + thirty + ";").about(14), 60);
        DUE.fault("worth " + thirty + "+1;", 2, 6 + 60);
        DUE.fault("worth " + thirty + "+(1);", 2, 6 + 60);
        DUE.fault("worth 1;keeps " + thirty + "+hatch;", 2, 14 + 60);
        DUE.is("a bracket is a unit", DUE.told("worth (" + thirty.substring(2) + ");").about(14), 30);
        DUE.fault("worth (" + thirty + ");", 2, 6 + 59);
        DUE.fault("worth (" + thirty.substring(0, 57) + "+(1));", 2, 6 + 59);
        DUE.is("none told", DUE.told("mood 1;").about(14), 0);
    }

    public static void main(String[] args) {
        newObject();
        tape();
        crossing();
        tokens();
        cut();
        full();
        again();
        lines();
        wordLines();
        comerLines();
        formulas();
        depth();
        units();
        DUE.end();
    }
}
