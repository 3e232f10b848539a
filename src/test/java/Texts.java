import java.util.ArrayList;
import java.util.List;
import java.util.Random;
import java.util.regex.Matcher;
import java.util.regex.Pattern;

/** Makes texts of crossings, most of them without a fault. */
final class Texts {
    private static final String[] NAMES = {"a", "b", "eels", "birth", "hearse", "e", "both", "unit", "zzzzzzzz", "ann", "moved",
        "line", "sum", "term", "one", "cid"};
    private static final String[] FACTS = {"moved", "moved", "many", "waited", "behind", "mood", "hatch"};
    private static final String[] RARE = {"roads", "word", "moves", "tires", "comer", "road", "says", "mood", "worth",
        "keeps", "whim", "draw", "or", "and", "not", "hatch", ";", "(", ")", "<", ">", "=", "+", "-", "*", "/", "%", "5",
        "100", "101", "9999", "12345", "abcdefghi", "x", "3x", "A", "\t", "\u00e9", "\0", ",", "x3", "\n"};

    private final Random random;

    Texts(Random random) {
        this.random = random;
    }

    private int below(int n) {
        return random.nextInt(n);
    }

    String formula(int depth, boolean loose) {
        int kinds = depth <= 0 ? 2 : 12;
        switch (below(kinds)) {
            case 0:
                return FACTS[below(FACTS.length)];
            case 1:
                return Integer.toString(below(4) == 0 ? below(10000) : below(30));
            case 2:
                return unit(depth - 1) + " * " + unit(depth - 1);
            case 3:
                return unit(depth - 1) + "/" + unit(depth - 1);
            case 4:
                return unit(depth - 1) + "%" + unit(depth - 1);
            case 5:
                return "not " + unit(depth - 1);
            case 6:
                return sum(depth - 1) + " < " + sum(depth - 1);
            case 7:
                return sum(depth - 1) + ">" + sum(depth - 1) + (loose ? " and " + sum(depth - 1) : "");
            case 8:
                return sum(depth - 1) + "=" + sum(depth - 1);
            case 9:
                return unit(depth - 1) + " or " + unit(depth - 1) + " and not " + unit(depth - 1);
            default:
                return sum(depth);
        }
    }

    private String sum(int depth) {
        return unit(depth - 1) + (below(2) == 0 ? " + " : "-") + unit(depth - 1);
    }

    private String unit(int depth) {
        if (depth <= 0) {
            return formula(0, false);
        }
        return "(" + formula(depth, true) + ")";
    }

    String worth() {
        switch (below(5)) {
            case 0:
                return "moved - " + below(60);
            case 1:
                return "moved + waited - " + below(60) + " - behind*3";
            case 2:
                return "(moved + mood) / " + below(4) + " - " + below(60) + " * many";
            case 3:
                return "moved > " + below(50) + " and mood > " + (40 + below(15)) + " or waited > " + below(30);
            default:
                return formula(3, true);
        }
    }

    /** A text that is most likely without a fault. */
    String well() {
        List<String> lines = new ArrayList<>();
        int roads = below(5);
        int words = below(8) == 0 ? 0 : 1 + below(8);
        for (int w = 0; w < words; w++) {
            lines.add("word w" + letters(w) + " moves " + below(below(3) == 0 ? 100 : 30)
                    + (below(3) > 0 ? " tires " + below(below(4) == 0 ? 100 : 6) : "") + " ;");
        }
        int comers = words == 0 ? 0 : below(9);
        for (int c = 0; c < comers; c++) {
            StringBuilder says = new StringBuilder();
            int said = 1 + below(Math.min(4, words));
            int first = below(words);
            for (int i = 0; i < said; i++) {
                says.append(' ').append('w').append(letters((first + i) % words));
            }
            lines.add("comer c" + letters(c) + " road " + below(roads == 0 ? 4 : roads) + " says" + says + ";");
        }
        maybe(lines, "mood " + below(100) + ";");
        maybe(lines, "worth " + worth() + ";");
        maybe(lines, "keeps " + formula(2, true) + ";");
        maybe(lines, "whim " + (below(5) == 0 ? 100 : below(101)) + ";");
        maybe(lines, "draw " + below(1000) + ";");
        return (roads == 0 ? "" : "roads " + roads + ";") + String.join(below(2) == 0 ? "\n" : "", lines);
    }

    private void maybe(List<String> lines, String line) {
        if (below(3) > 0) {
            lines.add(below(lines.size() + 1), line);
        }
    }

    private static String letters(int n) {
        return "" + (char) ('a' + n);
    }

    /** A text of which one token is another one. */
    String exchanged() {
        List<String> tokens = new ArrayList<>();
        Matcher pieces = Pattern.compile("[a-z]+|[0-9]+|.", Pattern.DOTALL).matcher(well());
        while (pieces.find()) {
            tokens.add(pieces.group());
        }
        for (int tries = 0; tries < 40 && !tokens.isEmpty(); tries++) {
            int at = below(tokens.size());
            String other = tokens.get(below(tokens.size()));
            boolean number = Character.isDigit(tokens.get(at).charAt(0));
            if (number && below(2) == 0) {
                other = Integer.toString(below(3) == 0 ? below(1200) : below(120));
            }
            boolean alike = number == Character.isDigit(other.charAt(0))
                    && Character.isLetter(tokens.get(at).charAt(0)) == Character.isLetter(other.charAt(0));
            if (alike && !tokens.get(at).isBlank() && !other.equals(tokens.get(at))) {
                tokens.set(at, other);
                break;
            }
        }
        return String.join("", tokens);
    }

    /** Formulas of many units, deep in brackets and nots, at the edges of what can be told. */
    String large() {
        StringBuilder text = new StringBuilder("worth ");
        many(text, 26 + below(6));
        text.append(";keeps ");
        many(text, 26 + below(6));
        return text.append(below(3) == 0 ? ";mood 1" : "").append(";").toString();
    }

    private void many(StringBuilder text, int units) {
        int depth = 0;
        for (int left = units; left > 1; left--) {
            int go = below(5);
            if (go == 0 && depth < 9) {
                boolean not = below(3) == 0;
                text.append(not ? "(not " : "(");
                depth++;
            } else if (go == 1 && depth > 0) {
                text.append(FACTS[below(FACTS.length)]).append(')').append(below(2) == 0 ? '*' : '-');
                depth--;
            } else {
                text.append(below(20)).append(below(8) == 0 ? " or not not " : below(2) == 0 ? "+" : " and ");
            }
        }
        text.append("hatch").append(")".repeat(depth));
    }

    /** A text with a few pieces changed, left out or put in. */
    String spoilt() {
        StringBuilder text = new StringBuilder(well());
        int times = 1 + below(3);
        for (int i = 0; i < times; i++) {
            int at = below(text.length() + 1);
            switch (below(5)) {
                case 0:
                    text.setLength(at);
                    break;
                case 1:
                    text.insert(at, RARE[below(RARE.length)]);
                    break;
                case 2:
                    text.insert(at, " " + RARE[below(RARE.length)] + " ");
                    break;
                case 3:
                    if (at < text.length()) {
                        text.deleteCharAt(at);
                    }
                    break;
                default:
                    text.insert(at, " " + NAMES[below(NAMES.length)] + " ");
                    break;
            }
        }
        return text.toString();
    }

    /** Pieces in no order at all. */
    String wild() {
        StringBuilder text = new StringBuilder();
        int pieces = below(12);
        for (int i = 0; i < pieces; i++) {
            text.append(below(2) == 0 ? RARE[below(RARE.length)] : NAMES[below(NAMES.length)]).append(below(3) == 0 ? "" : " ");
        }
        return text.toString();
    }
}
