import java.io.IOException;

/** Promises 1 to 5 and the text of "Terms": every sentence that names a boundary has a test of its own. */
public final class EdgesOfTextTest {
    private static final String T = "Terms 1";
    private static final String FIVE = "word a moves 1;word b moves 2;word c moves 3;word d moves 4;word e moves 5;";
    private static final String[] KEYWORDS = {"roads", "word", "moves", "tires", "comer", "road", "says", "mood", "worth",
        "keeps", "whim", "draw", "or", "and", "not", "moved", "many", "waited", "behind", "hatch"};
    private static Sentences s;

    // ---- helpers

    /** Of a line that is well: cut behind any of its tokens but the last it ends too early; what can't stand can't. */
    private static void line(String ahead, String... tokens) {
        String text = ahead;
        for (int i = 0; i < tokens.length; i++) {
            s.fault(text + ") ", 2, text.length());
            text += tokens[i];
            if (i < tokens.length - 1) {
                s.fault(text, 2, text.length());
                s.fault(text + "  \n", 2, text.length() + 3);
                text += " ";
            }
        }
        s.told(text);
        s.told(ahead + String.join(" \n ", tokens));
        s.fault(text + "x", 2, text.length());
    }

    private static void formula(String e) {
        s.told("worth " + e + ";");
        s.told("keeps " + e + ";");
    }

    private static void noFormula(String e, int place) {
        s.fault("worth " + e + ";", 2, 6 + place);
        s.fault("keeps " + e + ";", 2, 6 + place);
    }

    private static String units(int many) {
        return "1" + "+1".repeat(many - 1);
    }

    private static String manyWords(int many) {
        StringBuilder text = new StringBuilder();
        for (int i = 0; i < many; i++) {
            text.append("word ").append((char) ('a' + i)).append(" moves ").append(i + 1).append(';');
        }
        return text.toString();
    }

    private static String manyComers(int many) {
        StringBuilder text = new StringBuilder();
        for (int i = 0; i < many; i++) {
            text.append("comer ").append((char) ('a' + i)).append(" road 0 says a;");
        }
        return text.toString();
    }

    /** A line with one number: it can be from the least to the most, and is no number beyond. */
    private static void range(String ahead, String behind, int least, int most) {
        s.told(ahead + least + behind);
        s.told(ahead + most + behind);
        for (int number : new int[] {least - 1, most + 1, 9999}) {
            if (number >= 0) {
                s.fault(ahead + number + behind, 4, ahead.length());
            }
        }
    }

    private static void twice(String line) {
        s.told(line);
        s.fault(line + line, 2, line.length());
        s.fault(line + "word a moves 1;" + line, 2, line.length() + 15);
    }

    // ---- the text

    private static void text() {
        s.hold(T, "A CROSSING is a text of at most 1,600 bytes", () -> {
            s.is("about(4)", s.told(" ".repeat(1593) + "mood 7;").about(4), 7);
            s.is("about(4)", s.told("mood 7;" + "\n".repeat(1593)).about(4), 7);
            s.fault(" ".repeat(1599) + "x", 2, 1599);
            s.fault(";".repeat(1600), 2, 0);
            s.fault("a".repeat(1600), 1, 0);
            s.fault("7".repeat(1600), 1, 0);
            s.fault("worth " + "(".repeat(1594), 2, 13);
            s.fault("mood 1;" + " ".repeat(1588) + "draw ", 2, 1600);
        });
        s.hold(T, "(empty at first)", () -> {
            HatchLights x = new HatchLights();
            s.is("about(13)", x.about(13), 0);
            s.is("crossing()", x.crossing(), 0);
            s.is("fault(0)", x.fault(0), 0);
        });
        s.hold(T, "crossing = {line}", () -> {
            s.told("");
            s.told("mood 1;");
            s.told("mood 1;draw 1;whim 1;");
            s.fault(";", 2, 0);
            s.fault("mood 1;;", 2, 7);
            for (String word : new String[] {"moves", "tires", "road", "says", "or", "and", "not", "moved", "many", "waited",
                "behind", "hatch", "x", "7", "("}) {
                s.fault(word, 2, 0);
            }
        });
        s.hold(T, "line = roads N ;", () -> line("", "roads", "2", ";"));
        s.hold(T, "word NAME moves N [tires N] ;", () -> {
            line("", "word", "a", "moves", "5", ";");
            line("", "word", "a", "moves", "5", "tires", "6", ";");
            s.fault("word a tires 6;", 2, 7);
            s.fault("word a moves 5 tires 6 tires 6;", 2, 23);
        });
        s.hold(T, "comer NAME road N says NAME {NAME} ;", () -> {
            line(FIVE, "comer", "p", "road", "0", "says", "a", ";");
            line(FIVE, "comer", "p", "road", "0", "says", "a", "b", "c", "d", ";");
        });
        s.hold(T, "| mood N ;", () -> line("", "mood", "5", ";"));
        s.hold(T, "| worth e ;", () -> line("", "worth", "5", ";"));
        s.hold(T, "| keeps e ;", () -> line("", "keeps", "5", ";"));
        s.hold(T, "| whim N ;", () -> line("", "whim", "5", ";"));
        s.hold(T, "| draw N ;", () -> line("", "draw", "5", ";"));
    }

    private static void grammarOfE() {
        s.hold(T, "e = both {or both}.", () -> {
            formula("1");
            formula("1 or 2");
            formula("1 or 2 or 3 and 4 or not 5");
            noFormula("or 1", 0);
            noFormula("1 or", 4);
            noFormula("1 or or 2", 5);
            noFormula("1 2", 2);
            noFormula("", 0);
        });
        s.hold(T, "both = one {and one}.", () -> {
            formula("1 and 2");
            formula("1 and 2 and not 3");
            noFormula("and 1", 0);
            noFormula("1 and", 5);
            noFormula("1 and and 2", 6);
            noFormula("1 and or 2", 6);
        });
        s.hold(T, "one = not one | sum [(< | > | =) sum].", () -> {
            formula("not 1");
            formula("not not 1 < 2");
            formula("1 < 2");
            formula("1 > 2");
            formula("1 = 2");
            formula("(1 < 2) < 3");
            noFormula("1 < 2 < 3", 6);
            noFormula("1 > 2 = 3", 6);
            noFormula("1 = 2 > 3", 6);
            noFormula("1 < not 2", 4);
            noFormula("1 not 2", 2);
            noFormula("not", 3);
            noFormula("< 1", 0);
            noFormula("1 <", 3);
            noFormula("1 < = 2", 4);
        });
        s.hold(T, "sum = term {(+ | -) term}.", () -> {
            formula("1 + 2 - 3 + 4");
            noFormula("+ 1", 0);
            noFormula("- 1", 0);
            noFormula("1 + - 2", 4);
            noFormula("1 -", 3);
            noFormula("1 + not 2", 4);
        });
        s.hold(T, "term = unit {(* | / | %) unit}.", () -> {
            formula("1 * 2 / 3 % 4");
            noFormula("* 1", 0);
            noFormula("1 * / 2", 4);
            noFormula("1 %", 3);
            noFormula("1 / not 2", 4);
            noFormula("1 * - 2", 4);
        });
        s.hold(T, "unit = N | moved | many | waited | behind | mood | hatch | ( e ).", () -> {
            for (String unit : new String[] {"9999", "moved", "many", "waited", "behind", "mood", "hatch", "(1)", "(1 or not 2)"}) {
                formula(unit);
            }
            for (String other : new String[] {"roads", "word", "moves", "tires", "comer", "road", "says", "worth", "keeps", "whim",
                "draw", "or", "and", "a", "x", ";", ")", "<", ">", "=", "+", "-", "*", "/", "%"}) {
                noFormula(other, 0);
                noFormula("1+" + other, 2);
            }
            for (String sign : new String[] {"or", "and", "<", ">", "=", "+", "-", "*", "/", "%", ")"}) {
                noFormula("(" + sign + " 1)", 1);
                noFormula("1 + (" + sign + " 1)", 5);
            }
            noFormula("()", 1);
            noFormula("(1", 2);
            noFormula("1)", 1);
            noFormula("(1 2)", 3);
        });
    }

    private static void tokens() {
        s.hold(T, "words (a .. z, 8 at most)", () -> {
            for (char letter = 'a'; letter <= 'z'; letter++) {
                s.told("word " + letter + " moves 1;");
            }
            s.told("word abcdefgh moves 1;comer zzzzzzzz road 0 says abcdefgh;");
            s.fault("word abcdefghi moves 1;", 1, 5);
            s.fault("abcdefghi", 1, 0);
            for (char other : new char[] {'`', '{', 'A', 'Z', '@', '[', '_'}) {
                s.fault("word " + other + " moves 1;", 1, 5);
                s.fault("word a" + other + " moves 1;", 1, 6);
            }
        });
        s.hold(T, "N (1 to 4 digits)", () -> {
            s.is("about(4)", s.told("mood 7;").about(4), 7);
            s.is("about(4)", s.told("mood 0089;").about(4), 89);
            s.told("worth 9999 + 0000;");
            s.fault("mood 00007;", 1, 5);
            s.fault("worth 10000;", 1, 6);
            s.fault("worth 1+99999;", 1, 8);
            s.fault("mood :;", 1, 5);
        });
        s.hold(T, "signs ; ( ) < > = + - * / %", () -> {
            for (int sign = 0; sign < 256; sign++) {
                boolean isToken = ";()<>=+-*/%0123456789abcdefghijklmnopqrstuvwxyz".indexOf(sign) >= 0;
                if (sign != 32 && sign != 10) {
                    s.fault("mood 1;" + (char) sign, isToken ? 2 : 1, 7);
                }
            }
        });
        s.hold(T, "blanks (32, 10) part them or not", () -> {
            s.told("\n mood \n5\n\n;  worth(1)or(2)and(not(3));\n");
            s.told("mood5;word a moves5 tires6;comer p road0 says a;worth 1<2;");
            s.told("mood 5 ;word a moves 5 tires 6 ;comer p road 0 says a ;worth 1 < 2 ;");
            for (int other : new int[] {0, 9, 11, 12, 13, 31, 160}) {
                s.fault("mood" + (char) other + "5;", 1, 4);
            }
        });
        s.hold(T, "each is as long as can be", () -> {
            s.fault("moods 5;", 2, 0);
            s.fault("moodmood 5;", 2, 0);
            s.is("about(4)", s.told("mood 12;").about(4), 12);
            s.fault("mood 1 2;", 2, 7);
            s.is("about(1)", s.told("word a moves 1;word aa moves 1;word aaa moves 1;").about(1), 3);
            s.fault("word a moves5tires 6;", 1, 12);
            s.fault("worth 1 ornot 2;", 2, 8);
        });
        s.hold(T, "no letter directly behind an N", () -> {
            s.fault("mood 5x;", 1, 5);
            s.fault("5x", 1, 0);
            s.fault("worth 1or 2;", 1, 6);
            s.fault("worth 1234a;", 1, 6);
            s.told("worth 1 or 2;");
            s.told("mood 5;draw 5;");
            s.told("worth (1)or 2;");
            s.fault("mood 5A", 1, 6);
        });
        s.hold(T, "Words that stand for themselves here are no NAMES.", () -> {
            for (String word : KEYWORDS) {
                s.fault("word " + word + " moves 1;", 2, 5);
                s.fault(FIVE + "comer " + word + " road 0 says a;", 2, FIVE.length() + 6);
                s.fault(FIVE + "comer p road 0 says " + word + ";", 2, FIVE.length() + 20);
                s.fault(FIVE + "comer p road 0 says a " + word + ";", 2, FIVE.length() + 22);
                if (word.length() < 8) {
                    s.told("word " + word + "x moves 1;comer x" + word + " road 0 says " + word + "x;");
                }
                s.told("word z" + word.substring(1) + " moves 1;");
                if (word.length() > 2 && !word.equals("roads")) {
                    s.told("word " + word.substring(0, word.length() - 1) + " moves 1;");
                }
            }
            for (String name : new String[] {"e", "both", "one", "sum", "term", "unit", "line", "crossing", "name", "n"}) {
                s.told("word " + name + " moves 1;comer " + name + " road 0 says " + name + ";");
            }
        });
    }

    private static void whatMayBeTold() {
        s.hold(T, "roads (1 .. 4; 4 if not told)", () -> {
            range("roads ", ";", 1, 4);
            s.is("about(2)", s.told("roads 1;").about(2), 1);
            s.is("about(2)", s.told("roads 4;").about(2), 4);
            s.is("about(2)", s.told("mood 1;").about(2), 4);
            s.is("about(2)", s.told("").about(2), 4);
        });
        s.hold(T, "once, ahead of all others", () -> {
            s.fault("roads 2;roads 2;", 2, 8);
            for (String ahead : new String[] {"word a moves 1;", "mood 1;", "worth 1;", "keeps 1;", "whim 1;", "draw 1;",
                "word a moves 1;comer p road 0 says a;"}) {
                s.told("roads 2;" + ahead);
                s.fault(ahead + "roads 2;", 2, ahead.length());
            }
        });
        s.hold(T, "at most 8 WORDS", () -> {
            s.is("about(1)", s.told(manyWords(8)).about(1), 8);
            s.is("word(7, 0)", s.told(manyWords(8)).word(7, 0), 8);
            s.fault(manyWords(9), 2, manyWords(8).length());
        });
        s.hold(T, "moves 0 .. 99;", () -> {
            range("word a moves ", ";", 0, 99);
            range("word a moves ", " tires 1;", 0, 99);
            s.is("word(0, 0)", s.told("word a moves 0;").word(0, 0), 0);
            s.is("word(0, 0)", s.told("word a moves 99;").word(0, 0), 99);
        });
        s.hold(T, "tires 0 .. 99, 0 if not told", () -> {
            range("word a moves 1 tires ", ";", 0, 99);
            s.is("word(0, 1)", s.told("word a moves 1 tires 0;").word(0, 1), 0);
            s.is("word(0, 1)", s.told("word a moves 1 tires 99;").word(0, 1), 99);
            s.is("word(0, 1)", s.told("word a moves 1;").word(0, 1), 0);
            s.is("word(1, 1)", s.told("word a moves 1 tires 7;word b moves 1;").word(1, 1), 0);
        });
        s.hold(T, "8 COMERS", () -> {
            s.is("about(0)", s.told(FIVE + manyComers(8)).about(0), 8);
            s.is("comer(7, 1)", s.told(FIVE + manyComers(8)).comer(7, 1), 7);
            s.fault(FIVE + manyComers(9), 2, (FIVE + manyComers(8)).length());
        });
        s.hold(T, "on a ROAD from 0 on", () -> {
            for (int roads = 1; roads <= 4; roads++) {
                range("roads " + roads + ";word a moves 1;comer p road ", " says a;", 0, roads - 1);
            }
            range("word a moves 1;comer p road ", " says a;", 0, 3);
            s.is("comer(0, 0)", s.told("word a moves 1;comer p road 3 says a;").comer(0, 0), 3);
        });
        s.hold(T, "1 .. 4 unlike WORDS told ahead: his REASON", () -> {
            String comer = FIVE + "comer p road 0 says";
            int n = comer.length();
            s.fault(comer + ";", 2, n);
            s.is("comer(0, 2)", s.told(comer + " e;").comer(0, 2), 16);
            s.is("comer(0, 2)", s.told(comer + " e a d b;").comer(0, 2), 27);
            s.fault(comer + " a b c d e;", 2, n + 9);
            s.fault(comer + " a b a;", 3, n + 5);
            s.fault("comer p road 0 says a;word a moves 1;", 5, 20);
        });
        s.hold(T, "numbered as told, each sort by itself", () -> {
            HatchLights x = s.told("word b moves 5;comer b road 1 says b;word a moves 6;comer a road 1 says a;");
            s.is("word(0, 0)", x.word(0, 0), 5);
            s.is("word(1, 0)", x.word(1, 0), 6);
            s.is("comer(0, 2)", x.comer(0, 2), 1);
            s.is("comer(1, 2)", x.comer(1, 2), 2);
            s.is("comer(1, 1)", x.comer(1, 1), 1);
        });
        s.hold(T, "mood (0 .. 99; 50)", () -> {
            range("mood ", ";", 0, 99);
            s.is("about(4)", s.told("mood 0;").about(4), 0);
            s.is("about(4)", s.told("mood 99;").about(4), 99);
            s.is("about(4)", s.told("").about(4), 50);
        });
        s.hold(T, "whim (0 .. 100 of 100; 0)", () -> {
            range("whim ", ";", 0, 100);
            s.is("odds(1, 0)", s.told("whim 100;").odds(1, 0), 0);
            s.is("odds(1, 0)", s.told("whim 0;").odds(1, 0), 1);
            s.is("odds(1, 1)", s.told("whim 99;").odds(1, 1), 100);
            s.is("odds(4, 1)", s.told("").odds(4, 1), 1);
        });
        s.hold(T, "draw (0 .. 999; 0)", () -> {
            range("draw ", ";", 0, 999);
            s.is("about(8)", s.told("draw 999;").about(8), 999);
            s.is("about(8)", s.told("draw 0;").about(8), 0);
            s.is("about(8)", s.told("").about(8), 0);
        });
        s.hold(T, "mood (0 .. 99; 50), worth, keeps, whim (0 .. 100 of 100; 0), draw (0 .. 999; 0) once each", () -> {
            for (String line : new String[] {"mood 1;", "worth 1;", "keeps 1;", "whim 1;", "draw 1;"}) {
                twice(line);
            }
            s.told("draw 1;keeps 1;worth 1;whim 1;mood 1;");
        });
        s.hold(T, "60 units in all", () -> {
            s.is("about(14)", s.told("worth " + units(30) + ";keeps " + units(30) + ";").about(14), 60);
            s.is("about(14)", s.told("keeps " + units(29) + ";worth " + units(30) + ";").about(14), 59);
        });
        s.hold(T, "30 in one e", () -> {
            formula(units(30));
            noFormula(units(31), 60);
            formula("(" + units(29) + ")");
            noFormula("(" + units(30) + ")", 59);
            s.fault("worth 1;keeps " + units(30) + "+(1);", 2, 14 + 60);
            s.fault("keeps 1;worth " + units(30) + "+mood;", 2, 14 + 60);
            formula("not not 1 or ".repeat(29) + "moved");
        });
        s.hold(T, "(a unit ( e ), or a one behind not, within 6 others at most)", () -> {
            formula("(".repeat(7) + "1" + ")".repeat(7));
            noFormula("(".repeat(8) + "1" + ")".repeat(8), 7);
            formula("not ".repeat(7) + "1");
            noFormula("not ".repeat(8) + "1", 28);
            formula("not(".repeat(3) + "not 1" + ")".repeat(3));
            noFormula("not(".repeat(3) + "not(1)" + ")".repeat(3), 15);
            noFormula("not(".repeat(3) + "not not 1" + ")".repeat(3), 16);
            formula("((((((not 1)))))) + ((((((not 1)))))) + (((((((1)))))))");
            formula("not not not not not not not 1 or not not not not not not not 1");
            s.is("worth(0)", s.told("word a moves 1;comer p road 0 says a;worth " + "not ".repeat(7) + "0;").worth(0), 1);
        });
    }

    private static void faults() {
        s.hold(T, "FAULTS, the first by its place", () -> {
            s.fault("mood 100;roads 9;A", 4, 5);
            s.fault("A mood 100;", 1, 0);
            s.fault("mood x 12345", 2, 5);
            s.fault(FIVE + "comer p road 9 says x;", 4, FIVE.length() + 13);
            s.fault(FIVE + "word a moves 100;", 3, FIVE.length() + 5);
        });
        s.hold(T, "(bytes from 0; the end: the text's length)", () -> {
            s.fault("A", 1, 0);
            s.fault(" A", 1, 1);
            s.fault("mood", 2, 4);
            s.fault("mood  \n ", 2, 8);
            s.fault("mood 1" + " ".repeat(1594), 2, 1600);
        });
        s.hold(T, "at one place the least", () -> {
            s.fault(FIVE + "comer p road 0 says a b c d x;", 2, FIVE.length() + 28);
            s.fault(FIVE + "comer p road 0 says a b c d a;", 2, FIVE.length() + 28);
            s.fault("mood 12345;", 1, 5);
            s.fault("mood abcdefghi;", 1, 5);
            s.fault("word a moves 1;word abcdefghi moves 1;", 1, 20);
            s.fault("mood 1;mood 1x;", 2, 7);
        });
        s.hold(T, "1 no TOKEN", () -> {
            s.fault("mood !;", 1, 5);
            s.fault("mood 5!", 1, 6);
            s.fault("word a! moves 1;", 1, 6);
            s.fault("mood 1;" + (char) 255, 1, 7);
            s.fault("mood 1;" + (char) 128, 1, 7);
            s.fault("" + (char) 0, 1, 0);
        });
        s.hold(T, "2 one that can't stand there", () -> {
            s.fault("mood;", 2, 4);
            s.fault("word 5 moves 1;", 2, 5);
            s.fault("comer p says a;", 2, 8);
        });
        s.hold(T, "one of a sort too many, a second time, roads behind another line: at the line's first word", () -> {
            s.fault(manyWords(8) + "\nword", 2, manyWords(8).length() + 1);
            s.fault(manyWords(8) + "word !", 2, manyWords(8).length());
            s.fault(manyWords(8) + manyComers(8) + " comer", 2, (manyWords(8) + manyComers(8)).length() + 1);
            s.fault("mood 1; mood 100;", 2, 8);
            s.fault("worth 1; worth", 2, 9);
            s.fault("keeps 1;keeps", 2, 8);
            s.fault("whim 1;whim x", 2, 7);
            s.fault("draw 1;draw", 2, 7);
            s.fault("mood 1;roads 9;", 2, 7);
            s.fault("roads 1;roads", 2, 8);
        });
        s.hold(T, "a fifth NAME of a REASON", () -> {
            s.told(FIVE + "comer p road 0 says b c d e;");
            s.fault(FIVE + "comer p road 0 says b c d e a;", 2, FIVE.length() + 28);
            s.fault(FIVE + "comer p road 0 says b c d e\n\na", 2, FIVE.length() + 29);
        });
        s.hold(T, "a unit too many, what is within 7 others: at its first TOKEN, or the not", () -> {
            noFormula(units(30) + "* moved", 61);
            noFormula(units(30) + "*\n(1)", 61);
            noFormula(units(30) + " or not 1", 67);
            noFormula("((((((( ( 1", 8);
            noFormula("((((((( not 1", 8);
            noFormula("not not not not not not not ( 1", 28);
            noFormula("not not not not not not not\nnot", 28);
        });
        s.hold(T, "3 a NAME told already (of its sort; in a REASON, too)", () -> {
            s.fault("word a moves 1;word a moves 2;", 3, 20);
            s.fault(FIVE + "word a", 3, FIVE.length() + 5);
            s.told("word ab moves 1;word ba moves 1;word aab moves 1;word aba moves 1;word abcdefgh moves 1;word abcdefhg moves 1;"
                    + "comer ab road 0 says ba ab abcdefhg;comer ba road 0 says ab ba;");
            s.fault(FIVE + manyComers(7) + "comer a road 0 says a;", 3, (FIVE + manyComers(7)).length() + 6);
            s.told(FIVE + "comer a road 0 says a;");
            s.told("word a moves 1;comer b road 0 says a;word b moves 1;");
            s.fault(FIVE + "comer p road 0 says a b b;", 3, FIVE.length() + 24);
            s.told(FIVE + "comer p road 0 says a;comer q road 0 says a;");
        });
        s.hold(T, "4 a number that can't be", () -> {
            s.fault("roads 5", 4, 6);
            s.fault("roads 0", 4, 6);
            s.fault("mood 100", 4, 5);
            s.fault("whim 101", 4, 5);
            s.fault("draw 1000", 4, 5);
            s.fault("word a moves 100", 4, 13);
            s.fault("word a moves 1 tires 100", 4, 21);
            s.fault("roads 2;word a moves 1;comer p road 2", 4, 36);
        });
        s.hold(T, "5 a NAME that no WORD has", () -> {
            s.fault("comer p road 0 says a", 5, 20);
            s.fault(FIVE + "comer p road 0 says p;", 5, FIVE.length() + 20);
            s.fault(FIVE + "comer p road 0 says a aa;", 5, FIVE.length() + 22);
            s.fault(FIVE + "comer p road 0 says a b c z;", 5, FIVE.length() + 26);
        });
    }

    // ---- promises 1 to 5

    private static void newObject() {
        s.hold("The constants", "`NONE = -1`", () -> s.is("NONE", HatchLights.NONE, -1));
        s.hold("Promise 1", "An empty CROSSING (4 ROADS, MOOD 50).", () -> {
            HatchLights x = new HatchLights();
            int[] due = {0, 0, 4, 0, 50, 0, 0, 0, 0, 0, 0, 0, 0, 0, 0, 0};
            for (int what = 0; what < due.length; what++) {
                s.is("about(" + what + ")", x.about(what), due[what]);
            }
            s.is("row(3)", x.row(3), 0);
            s.is("row(4)", x.row(4), -1);
            s.is("undo()", x.undo(), false);
            s.is("redo()", x.redo(), false);
            s.is("back(0)", x.back(0), -1);
            s.is("lies(0)", x.lies(0), -1);
        });
    }

    private static void feedTimes(HatchLights x, int times) {
        for (int i = 0; i < times; i++) {
            x.feed(0x20202020, 0x20202020, 0x20202020, 0x20202020, 0x20202020);
        }
    }

    private static void tape() {
        s.hold("Promise 2", "Twenty bytes come behind those on the TAPE, of each number the highest first: how many there are", () -> {
            HatchLights x = new HatchLights();
            // "mood", " 17;", "draw", " 123", ";   "
            s.is("feed", x.feed(0x6d6f6f64, 0x2031373b, 0x64726177, 0x20313233, 0x3b202020), 20);
            s.is("end(17)", x.end(17), 17);
            // "whim", " 50;", blanks
            s.is("feed", x.feed(0x7768696d, 0x2035303b, 0x20202020, 0x0a0a0a0a, 0x20202020), 37);
            s.is("crossing()", x.crossing(), 0);
            s.is("about(4)", x.about(4), 17);
            s.is("about(8)", x.about(8), 123);
            s.is("odds(1, 1)", x.odds(1, 1), 2);
            HatchLights y = new HatchLights();
            s.is("feed", y.feed(-1, 0, -2, Sentences.LOW, Sentences.HIGH), 20);
            y.crossing();
            s.is("fault(1)", y.fault(1), 0);
        });
        s.hold("Promise 2", "NONE, and nothing comes, if there would be more than 1,600", () -> {
            HatchLights x = new HatchLights();
            Due.feed(x, "mood 7;");
            x.end(20);
            feedTimes(x, 79);
            s.is("about(13)", x.about(13), 1587);
            s.is("feed to 1607", x.feed(0, 0, 0, 0, 0), -1);
            s.is("about(13)", x.about(13), 1587);
            s.is("end(1581)", x.end(1581), 1581);
            s.is("feed to 1601", x.feed(0, 0, 0, 0, 0), -1);
            s.is("about(13)", x.about(13), 1581);
            s.is("end(1580)", x.end(1580), 1580);
            s.is("feed to 1600", x.feed(0x20202020, 0x20202020, 0x20202020, 0x20202020, 0x20202020), 1600);
            s.is("feed to 1620", x.feed(0, 0, 0, 0, 0), -1);
            s.is("about(13)", x.about(13), 1600);
            s.is("crossing()", x.crossing(), 0);
            s.is("about(4)", x.about(4), 7);
        });
        s.hold("Promise 3", "The TAPE has its first n bytes: n", () -> {
            HatchLights x = new HatchLights();
            Due.feed(x, "mood 1;draw 2;whim");
            s.is("end(18)", x.end(18), 18);
            s.is("end(14)", x.end(14), 14);
            s.is("about(13)", x.about(13), 14);
            s.is("crossing()", x.crossing(), 0);
            s.is("about(8)", x.about(8), 2);
            Due.feed(x, "mood 1");
            s.is("end(0)", x.end(0), 0);
            s.is("crossing()", x.crossing(), 0);
            s.is("end(0) of none", x.end(0), 0);
            // What stood behind the n-th byte is not there.
            String[] texts = {"moods 5;", "mood 12;", "mood 5x;", "mood 1;", "worth (1);", "mood 9A;"};
            int[] cuts = {4, 6, 6, 6, 8, 6};
            for (int i = 0; i < texts.length; i++) {
                HatchLights y = new HatchLights();
                Due.feed(y, texts[i]);
                s.is("end", y.end(cuts[i]), cuts[i]);
                s.is("crossing()", y.crossing(), -1);
                s.is("fault(0) of " + texts[i] + " cut", y.fault(0), 2);
                s.is("fault(1) of " + texts[i] + " cut", y.fault(1), cuts[i]);
            }
        });
        s.hold("Promise 3", "NONE, doing nothing, if it has not so many, or n is below 0", () -> {
            HatchLights x = new HatchLights();
            s.idle("end(1) of none", x, () -> x.end(1), -1);
            Due.feed(x, "mood 1;");
            s.idle("end(8)", x, () -> x.end(8), -1);
            s.idle("end(20)", x, () -> x.end(20), -1);
            s.idle("end(-1)", x, () -> x.end(-1), -1);
            s.idle("end of the highest", x, () -> x.end(Sentences.HIGH), -1);
            s.idle("end of the lowest", x, () -> x.end(Sentences.LOW), -1);
            s.is("crossing()", x.crossing(), 0);
            s.is("about(4)", x.about(4), 1);
        });
    }

    /** An object with all that a crossing forgets: acts done and undone, boxes, what is seen, what lies there. */
    private static HatchLights used() {
        HatchLights x = s.told("roads 2;word a moves 30 tires 1;word b moves 5;comer p road 0 says a;comer q road 1 says b a;"
                + "mood 7;draw 5;worth moved-9;keeps 3;");
        x.later(7);
        x.seen(1, 0, true);
        x.image(0);
        x.image(1);
        x.image(2);
        x.open(1);
        x.rehearse(0, 3);
        x.humour(70);
        x.undo();
        x.soonest();
        return x;
    }

    private static void anew(HatchLights x, String text) {
        x.end(0);
        Due.feed(x, text);
        s.is("fault(0) of " + text, x.crossing() >= 0, true);
    }

    private static void crossing() {
        s.hold("Promise 4", "The TAPE (empty then) is the CROSSING", () -> {
            HatchLights x = new HatchLights();
            Due.feed(x, "roads 3;mood 9;");
            x.crossing();
            s.is("about(13)", x.about(13), 0);
            s.is("about(2)", x.about(2), 3);
            s.is("crossing() of nothing", x.crossing(), 0);
            s.is("about(2)", x.about(2), 4);
            s.is("about(4)", x.about(4), 50);
        });
        s.hold("Promise 4", "hatch 0, no minutes", () -> {
            HatchLights x = used();
            s.is("about(6) ahead of it", x.about(6), 1);
            s.is("about(5) ahead of it", x.about(5), 3);
            anew(x, "roads 3;word a moves 31 tires 2;comer p road 2 says a;mood 8;draw 6;");
            int[] due = {1, 1, 3, 0, 8, 0, 0, 0, 6};
            for (int what = 0; what < due.length; what++) {
                s.is("about(" + what + ")", x.about(what), due[what]);
            }
            s.is("word(0, 0)", x.word(0, 0), 31);
            s.is("word(0, 1)", x.word(0, 1), 2);
            s.is("comer(0, 0)", x.comer(0, 0), 2);
            s.is("comer(0, 2)", x.comer(0, 2), 1);
            s.is("comer(0, 3)", x.comer(0, 3), 0);
            s.is("worth(0)", x.worth(0), 22);
            s.is("keeps(0)", x.keeps(0), 5);
            s.is("row(0)", x.row(0), 0);
            s.is("about(14)", x.about(14), 0);
            anew(x, "");
            s.is("about(2)", x.about(2), 4);
        });
        s.hold("Promise 4", "all as told", () -> {
            // What one crossing told is not there in the next, however often.
            HatchLights x = new HatchLights();
            String[] texts = {"roads 3;word a moves 5 tires 4;comer p road 0 says a;mood 9;draw 8;whim 100;worth " + "not not not 1 and ".repeat(14) + "1;keeps "
                + units(30) + ";", "word a moves 5;comer p road 0 says a;", "word a moves 7 tires 2;comer p road 1 says a;worth (mood", ""};
            for (int i = 0; i < 24; i++) {
                int at = i % 4;
                x.end(0);
                Due.feed(x, texts[at]);
                s.is("crossing()", x.crossing(), new int[] {1, 1, -1, 0}[at]);
                s.is("about(2)", x.about(2), new int[] {3, 4, 4, 4}[at]);
                s.is("about(4)", x.about(4), new int[] {9, 50, 50, 50}[at]);
                s.is("about(8)", x.about(8), new int[] {8, 0, 0, 0}[at]);
                s.is("about(14)", x.about(14), new int[] {45, 0, 0, 0}[at]);
                s.is("odds(1, 0)", x.odds(1, 0), new int[] {0, 1, 1, 1}[at]);
                s.is("word(0, 1)", x.word(0, 1), new int[] {4, 0, 0, -2}[at]);
                s.is("worth(0)", x.worth(0), new int[] {0, -4, -4, -1000000000}[at]);
                s.is("keeps(0)", x.keeps(0), new int[] {30, 5, 5, -1}[at]);
            }
        });
        s.hold("Promise 4", "no ACTS are kept", () -> {
            HatchLights x = used();
            s.is("about(9) ahead of it", x.about(9), 2);
            s.is("about(10) ahead of it", x.about(10), 1);
            anew(x, "");
            s.is("about(9)", x.about(9), 0);
            s.is("about(10)", x.about(10), 0);
            s.is("undo()", x.undo(), false);
            s.is("redo()", x.redo(), false);
            for (int mood = 0; mood < 45; mood++) {
                x.humour(mood);
            }
            anew(x, "mood 7;");
            s.is("undo() of many", x.undo(), false);
            x.humour(3);
            s.is("undo() of what came then", x.undo(), true);
            s.is("about(4)", x.about(4), 7);
            s.is("about(6)", x.about(6), 0);
        });
        s.hold("Promise 4", "nothing is SEEN", () -> {
            HatchLights x = used();
            s.is("about(11) ahead of it", x.about(11), 1);
            s.is("fits(7) ahead of it", x.fits(7), 100);
            x.untell(0);
            anew(x, "roads 1;word k moves 3;comer p road 0 says k;worth moved-59;");
            s.is("about(11)", x.about(11), 0);
            s.is("untell(0)", x.untell(0), false);
            s.is("fits(7)", x.fits(7), 100);
            s.is("seen", x.seen(1, 0, true), 0);
            s.is("fits(7) of the crossing as told now", x.fits(7), 40);
            s.is("untell(0) of what is seen now", x.untell(0), true);
        });
        s.hold("Promise 4", "nothing lies there", () -> {
            HatchLights x = used();
            s.is("about(15) ahead of it", x.about(15), 1);
            anew(x, "");
            s.is("about(15)", x.about(15), 0);
            s.is("lies(0)", x.lies(0), -1);
        });
        s.hold("Promise 4", "BOXES are empty then", () -> {
            HatchLights x = used();
            anew(x, "");
            for (int box = 0; box < 3; box++) {
                s.is("back(" + box + ")", x.back(box), -1);
            }
        });
        s.hold("Promise 4", "the TIME stays", () -> {
            HatchLights x = used();
            anew(x, "");
            s.is("about(12)", x.about(12), 7);
            s.is("later(1)", x.later(1), 8);
        });
        s.hold("Promise 4", "how many COMERS", () -> {
            for (int many = 0; many <= 8; many++) {
                HatchLights x = new HatchLights();
                Due.feed(x, FIVE + manyComers(many));
                s.is("crossing()", x.crossing(), many);
            }
        });
        s.hold("Promise 4", "NONE: a FAULT (all stays)", () -> {
            HatchLights x = used();
            Due.feed(x, "roads 3;word c moves 9;mood 1;draw 8;worth 1+1;keeps 1+1;mood");
            s.idle("crossing()", x, x::crossing, -1);
            s.is("word(0, 1)", x.word(0, 1), 1);
            s.is("comer(1, 4)", x.comer(1, 4), 3);
            s.is("worth(0)", x.worth(0), 25);
            s.is("keeps(0)", x.keeps(0), 3);
            s.is("fits(7)", x.fits(7), 100);
            s.is("end(57)", x.end(57), 57);
            s.is("redo()", x.redo(), true);
            s.is("about(4)", x.about(4), 70);
            for (int box = 0; box < 3; box++) {
                s.is("back(" + box + ")", x.back(box), 0);
            }
            s.is("crossing() of what is well of it", x.crossing(), 0);
            s.is("about(2)", x.about(2), 3);
        });
    }

    private static void fault() {
        s.hold("Promise 5", "Of the latest crossing()", () -> {
            HatchLights x = new HatchLights();
            Due.feed(x, "mood A");
            s.is("fault(0) ahead of crossing()", x.fault(0), 0);
            x.crossing();
            s.is("fault(0)", x.fault(0), 1);
            x.end(0);
            Due.feed(x, "mood 100;");
            s.is("fault(0) ahead of crossing()", x.fault(0), 1);
            x.crossing();
            s.is("fault(0)", x.fault(0), 4);
            s.is("fault(1)", x.fault(1), 5);
            x.hatch();
            x.undo();
            s.is("fault(0) of the latest still", x.fault(0), 4);
        });
        s.hold("Promise 5", "what 0: its FAULT (0)", () -> {
            HatchLights x = new HatchLights();
            s.is("fault(0) of a new object", x.fault(0), 0);
            Due.feed(x, "moo");
            x.crossing();
            s.is("fault(0)", x.fault(0), 2);
            x.end(0);
            x.crossing();
            s.is("fault(0)", x.fault(0), 0);
        });
        s.hold("Promise 5", "1: its place (NONE)", () -> {
            HatchLights x = new HatchLights();
            s.is("fault(1) of a new object", x.fault(1), -1);
            Due.feed(x, "   moo");
            x.crossing();
            s.is("fault(1)", x.fault(1), 3);
            x.end(0);
            x.crossing();
            s.is("fault(1)", x.fault(1), -1);
        });
        s.hold("Promise 5", "NONE for another what", () -> {
            HatchLights x = new HatchLights();
            Due.feed(x, "mood 100;");
            x.crossing();
            for (int what : new int[] {-1, 2, Sentences.LOW, Sentences.HIGH}) {
                s.is("fault(" + what + ")", x.fault(what), -1);
            }
        });
    }

    public static void main(String[] args) throws IOException {
        s = new Sentences(args);
        text();
        grammarOfE();
        tokens();
        whatMayBeTold();
        faults();
        newObject();
        tape();
        crossing();
        fault();
        s.end(Sentences.promises(1, 5, T, "The constants"));
    }
}
