import java.util.ArrayDeque;
import java.util.ArrayList;
import java.util.Deque;
import java.util.HashMap;
import java.util.List;
import java.util.Map;
import java.util.Set;
import java.util.TreeMap;
import java.util.function.ToIntFunction;
import java.util.regex.Matcher;
import java.util.regex.Pattern;

/** The document read a second time, in another manner and without care for speed: what HatchLights is held against. */
public final class PlainLights {
    private static final int NO_WORTH = -1000000000;

    /** A fault and its place. */
    private static final class Fault extends RuntimeException {
        private static final long serialVersionUID = 1L;
        final int sort;
        final int place;

        Fault(int sort, int place) {
            this.sort = sort;
            this.place = place;
        }
    }

    record Token(String text, int place, boolean bad) {
        boolean isWord() {
            return !bad && !text.isEmpty() && Character.isLetter(text.charAt(0));
        }

        boolean isName() {
            return isWord() && !RESERVED.contains(text);
        }

        boolean isNumber() {
            return !bad && !text.isEmpty() && Character.isDigit(text.charAt(0));
        }
    }

    record Word(String name, int moves, int tires) { }

    record Comer(String name, int road, int reason) { }

    /** What a formula is worked out by. */
    record View(int moved, int many, int waited, int behind, int mood, int hatch) { }

    private static final Set<String> RESERVED = Set.of("roads", "word", "moves", "tires", "comer", "road", "says",
            "mood", "worth", "keeps", "whim", "draw", "or", "and", "not", "moved", "many", "waited", "behind", "hatch");

    /** The crossing as told. */
    private static final class Text {
        final List<Word> words = new ArrayList<>();
        final List<Comer> comers = new ArrayList<>();
        int roads = 4;
        int mood = 50;
        int whim = 0;
        int draw = 0;
        int units = 0;
        ToIntFunction<View> worth = v -> v.moved - 9;
        ToIntFunction<View> keeps = v -> 5 * v.many;
    }

    private static final class Parser {
        private static final Pattern PIECE = Pattern.compile("[a-z]+|[0-9]+[a-z]?|.", Pattern.DOTALL);
        final List<Token> tokens = new ArrayList<>();
        final Text told = new Text();
        final Map<String, Integer> lines = new HashMap<>();
        int at = 0;
        int unitsHere = 0;

        Parser(String text) {
            Matcher m = PIECE.matcher(text);
            while (m.find()) {
                String p = m.group();
                if (p.equals(" ") || p.equals("\n")) {
                    continue;
                }
                boolean good = p.matches("[a-z]{1,8}|[0-9]{1,4}|[;()<>=+*/%-]");
                tokens.add(new Token(p, m.start(), !good));
                if (!good) {
                    break;
                }
            }
            tokens.add(new Token("", text.length(), false));
        }

        Token peek() {
            return tokens.get(at);
        }

        boolean is(String text) {
            return !peek().bad && peek().text.equals(text);
        }

        Fault wrong() {
            return new Fault(peek().bad ? 1 : 2, peek().place);
        }

        Token take(boolean fine) {
            if (!fine) {
                throw wrong();
            }
            return tokens.get(at++);
        }

        void word(String text) {
            take(is(text));
        }

        int number(int least, int most) {
            Token t = take(peek().isNumber());
            int n = Integer.parseInt(t.text);
            if (n < least || n > most) {
                throw new Fault(4, t.place);
            }
            return n;
        }

        Text parse() {
            while (!peek().text.isEmpty()) {
                line();
            }
            return told;
        }

        void line() {
            Token first = peek();
            String sort = first.bad ? "" : first.text;
            int before = lines.getOrDefault(sort, 0);
            boolean fine = switch (sort) {
                case "word", "comer" -> before < 8;
                case "mood", "worth", "keeps", "whim", "draw" -> before < 1;
                case "roads" -> lines.isEmpty();
                default -> false;
            };
            take(fine);
            lines.put(sort, before + 1);
            switch (sort) {
                case "roads" -> told.roads = number(1, 4);
                case "mood" -> told.mood = number(0, 99);
                case "whim" -> told.whim = number(0, 100);
                case "draw" -> told.draw = number(0, 999);
                case "worth" -> told.worth = whole();
                case "keeps" -> told.keeps = whole();
                case "word" -> wordLine();
                default -> comerLine();
            }
            word(";");
        }

        void wordLine() {
            Token name = take(peek().isName());
            if (told.words.stream().anyMatch(w -> w.name.equals(name.text))) {
                throw new Fault(3, name.place);
            }
            word("moves");
            int moves = number(0, 99);
            int tires = 0;
            if (is("tires")) {
                word("tires");
                tires = number(0, 99);
            }
            told.words.add(new Word(name.text, moves, tires));
        }

        void comerLine() {
            Token name = take(peek().isName());
            if (told.comers.stream().anyMatch(c -> c.name.equals(name.text))) {
                throw new Fault(3, name.place);
            }
            word("road");
            int road = number(0, told.roads - 1);
            word("says");
            List<Integer> said = new ArrayList<>();
            do {
                Token t = take(peek().isName() && said.size() < 4);
                int found = -1;
                for (int i = 0; i < told.words.size(); i++) {
                    if (told.words.get(i).name.equals(t.text)) {
                        found = i;
                    }
                }
                if (said.contains(found)) {
                    throw new Fault(3, t.place);
                }
                if (found < 0) {
                    throw new Fault(5, t.place);
                }
                said.add(found);
            } while (peek().isName());
            int bits = 0;
            for (int w : said) {
                bits += 1 << w;
            }
            told.comers.add(new Comer(name.text, road, bits));
        }

        ToIntFunction<View> whole() {
            unitsHere = 0;
            return e(0);
        }

        ToIntFunction<View> e(int within) {
            ToIntFunction<View> left = both(within);
            while (is("or")) {
                word("or");
                ToIntFunction<View> l = left;
                ToIntFunction<View> r = both(within);
                left = v -> (l.applyAsInt(v) != 0) | (r.applyAsInt(v) != 0) ? 1 : 0;
            }
            return left;
        }

        ToIntFunction<View> both(int within) {
            ToIntFunction<View> left = one(within);
            while (is("and")) {
                word("and");
                ToIntFunction<View> l = left;
                ToIntFunction<View> r = one(within);
                left = v -> (l.applyAsInt(v) != 0) & (r.applyAsInt(v) != 0) ? 1 : 0;
            }
            return left;
        }

        ToIntFunction<View> one(int within) {
            if (is("not")) {
                take(within < 7);
                ToIntFunction<View> inner = one(within + 1);
                return v -> inner.applyAsInt(v) == 0 ? 1 : 0;
            }
            ToIntFunction<View> l = sum(within);
            if (is("<") || is(">") || is("=")) {
                String sign = take(true).text;
                ToIntFunction<View> r = sum(within);
                return switch (sign) {
                    case "<" -> v -> l.applyAsInt(v) < r.applyAsInt(v) ? 1 : 0;
                    case ">" -> v -> l.applyAsInt(v) > r.applyAsInt(v) ? 1 : 0;
                    default -> v -> l.applyAsInt(v) == r.applyAsInt(v) ? 1 : 0;
                };
            }
            return l;
        }

        ToIntFunction<View> sum(int within) {
            ToIntFunction<View> left = term(within);
            while (is("+") || is("-")) {
                int sign = take(true).text.equals("+") ? 1 : -1;
                ToIntFunction<View> l = left;
                ToIntFunction<View> r = term(within);
                left = v -> l.applyAsInt(v) + sign * r.applyAsInt(v);
            }
            return left;
        }

        ToIntFunction<View> term(int within) {
            ToIntFunction<View> left = unit(within);
            while (is("*") || is("/") || is("%")) {
                String sign = take(true).text;
                ToIntFunction<View> l = left;
                ToIntFunction<View> r = unit(within);
                left = v -> {
                    long a = l.applyAsInt(v);
                    long b = r.applyAsInt(v);
                    if (sign.equals("*")) {
                        return (int) (a * b);
                    }
                    return b == 0 ? 0 : (int) (sign.equals("/") ? a / b : a % b);
                };
            }
            return left;
        }

        ToIntFunction<View> unit(int within) {
            Token t = peek();
            boolean can = t.isNumber() || !t.bad
                    && Set.of("moved", "many", "waited", "behind", "mood", "hatch", "(").contains(t.text);
            take(can && unitsHere < 30 && told.units < 60 && !(t.text.equals("(") && within > 6));
            unitsHere++;
            told.units++;
            if (t.isNumber()) {
                int n = Integer.parseInt(t.text);
                return v -> n;
            }
            switch (t.text) {
                case "moved":
                    return View::moved;
                case "many":
                    return View::many;
                case "waited":
                    return View::waited;
                case "behind":
                    return View::behind;
                case "mood":
                    return View::mood;
                case "hatch":
                    return View::hatch;
                default:
                    ToIntFunction<View> inner = e(within + 1);
                    word(")");
                    return inner;
            }
        }
    }

    /** How all stands. */
    private static final class State {
        List<List<Integer>> rows = new ArrayList<>();
        int[] reason = new int[8];
        int[] waited = new int[8];
        int[] moves = new int[8];
        int mood;
        int minutes;
        int hatch;
        int hand;
        int seed;

        State copy() {
            State s = new State();
            for (List<Integer> row : rows) {
                s.rows.add(new ArrayList<>(row));
            }
            s.reason = reason.clone();
            s.waited = waited.clone();
            s.moves = moves.clone();
            s.mood = mood;
            s.minutes = minutes;
            s.hatch = hatch;
            s.hand = hand;
            s.seed = seed;
            return s;
        }
    }

    private record Sighting(int hatches, int comer, boolean is, int at) { }

    private StringBuilder tape = new StringBuilder();
    private Text told = new Text();
    private State now = begin();
    private Deque<State> past = new ArrayDeque<>();
    private Deque<State> undone = new ArrayDeque<>();
    private List<Integer> lying = new ArrayList<>();
    private List<Sighting> sightings = new ArrayList<>();
    private Map<Integer, Integer> untold = new TreeMap<>();
    private Map<Integer, State> boxes = new TreeMap<>();
    private int time = 0;
    private int faultSort = 0;
    private int faultPlace = -1;

    private State begin() {
        State s = new State();
        for (int r = 0; r < told.roads; r++) {
            s.rows.add(new ArrayList<>());
        }
        for (int c = 0; c < told.comers.size(); c++) {
            s.rows.get(told.comers.get(c).road).add(c);
            s.reason[c] = told.comers.get(c).reason;
        }
        for (int w = 0; w < told.words.size(); w++) {
            s.moves[w] = told.words.get(w).moves;
        }
        s.mood = told.mood;
        s.seed = told.draw;
        return s;
    }

    private int roadOf(State s, int c) {
        for (int r = 0; r < s.rows.size(); r++) {
            if (s.rows.get(r).contains(c)) {
                return r;
            }
        }
        return -1;
    }

    private boolean isBy(State s, int c) {
        return roadOf(s, c) < 0;
    }

    private int by(State s) {
        int bits = 0;
        for (int c = 0; c < told.comers.size(); c++) {
            bits |= isBy(s, c) ? 1 << c : 0;
        }
        return bits;
    }

    private View view(State s, int c, int reason, int mood) {
        int moved = 0;
        for (int w = 0; w < 8; w++) {
            moved += (reason & 1 << w) != 0 ? s.moves[w] : 0;
        }
        List<Integer> row = s.rows.get(roadOf(s, c));
        return new View(moved, Integer.bitCount(reason), s.waited[c], row.size() - row.indexOf(c) - 1, mood, s.hatch);
    }

    private int worthOf(State s, int c, int reason, int mood) {
        return told.worth.applyAsInt(view(s, c, reason, mood));
    }

    private int worthOf(State s, int c) {
        return worthOf(s, c, s.reason[c], s.mood);
    }

    private int keepsOf(State s, int c) {
        int k = told.keeps.applyAsInt(view(s, c, s.reason[c], s.mood));
        return k < 0 ? 0 : k > 999 ? 999 : k;
    }

    private record Step(State after, int heard, int let, int kept) { }

    private Step step(State before, int road, boolean whims) {
        State s = before.copy();
        boolean whim = false;
        if (whims) {
            s.seed = (before.seed * 137 + 71) % 1000;
            whim = s.seed % 100 < told.whim;
        }
        int heard = -1;
        int let = -1;
        int kept = 0;
        List<Integer> row = s.rows.get(road);
        if (!row.isEmpty()) {
            heard = row.remove(0);
            kept = keepsOf(before, heard);
            if (worthOf(before, heard) > 0 && !whim) {
                let = heard;
            } else {
                row.add(heard);
            }
            for (int w = 0; w < told.words.size(); w++) {
                if ((s.reason[heard] & 1 << w) != 0) {
                    s.moves[w] = Math.max(0, s.moves[w] - told.words.get(w).tires);
                }
            }
            s.mood = let >= 0 ? Math.min(99, s.mood + 1) : Math.max(0, s.mood - 1);
        }
        s.minutes += kept;
        for (List<Integer> r : s.rows) {
            for (int c : r) {
                s.waited[c] = Math.min(999, s.waited[c] + 1);
            }
        }
        s.hatch++;
        s.hand = (road + 1) % told.roads;
        return new Step(s, heard, let, kept);
    }

    private State ahead(State s, int n, boolean whims) {
        State a = s;
        for (int i = 0; i < n; i++) {
            a = step(a, a.hand, whims).after;
        }
        return a;
    }

    private int whenBy(State s, int c, int most) {
        State a = s;
        for (int i = 0; i <= most; i++) {
            if (isBy(a, c)) {
                return i;
            }
            a = step(a, a.hand, false).after;
        }
        return -1;
    }

    private boolean comerIs(int c) {
        return c >= 0 && c < told.comers.size();
    }

    private boolean waits(int c) {
        return comerIs(c) && !isBy(now, c);
    }

    private boolean wordIs(int w) {
        return w >= 0 && w < told.words.size();
    }

    private boolean roadIs(int r) {
        return r >= 0 && r < told.roads;
    }

    private static boolean n60(int n) {
        return n >= 0 && n <= 60;
    }

    private void act(State next) {
        past.addLast(now);
        if (past.size() > 40) {
            past.removeFirst();
        }
        undone.clear();
        now = next;
    }

    public int feed(int a, int b, int c, int d, int e) {
        if (tape.length() > 1580) {
            return -1;
        }
        for (int x : new int[] {a, b, c, d, e}) {
            tape.append((char) (x >>> 24)).append((char) (x >>> 16 & 255)).append((char) (x >>> 8 & 255)).append((char) (x & 255));
        }
        return tape.length();
    }

    public int end(int n) {
        if (n < 0 || n > tape.length()) {
            return -1;
        }
        tape.setLength(n);
        return n;
    }

    public int crossing() {
        Text next;
        try {
            next = new Parser(tape.toString()).parse();
        } catch (Fault f) {
            faultSort = f.sort;
            faultPlace = f.place;
            return -1;
        }
        faultSort = 0;
        faultPlace = -1;
        told = next;
        tape.setLength(0);
        now = begin();
        past.clear();
        undone.clear();
        lying.clear();
        sightings.clear();
        untold.clear();
        boxes.clear();
        return told.comers.size();
    }

    public int fault(int what) {
        return what == 0 ? faultSort : what == 1 ? faultPlace : -1;
    }

    public int word(int w, int what) {
        if (!wordIs(w) || what < 0 || what > 2) {
            return -2;
        }
        if (what == 0) {
            return now.moves[w];
        }
        return what == 1 ? told.words.get(w).tires : sayers(w);
    }

    private int sayers(int w) {
        int bits = 0;
        for (int c = 0; c < told.comers.size(); c++) {
            bits |= waits(c) && (now.reason[c] & 1 << w) != 0 ? 1 << c : 0;
        }
        return bits;
    }

    public int comer(int c, int what) {
        if (!comerIs(c)) {
            return -2;
        }
        return switch (what) {
            case 0 -> roadOf(now, c);
            case 1 -> isBy(now, c) ? -1 : now.rows.get(roadOf(now, c)).indexOf(c);
            case 2 -> now.reason[c];
            case 3 -> now.waited[c];
            case 4 -> told.comers.get(c).reason;
            default -> -2;
        };
    }

    public int worth(int c) {
        return waits(c) ? worthOf(now, c) : NO_WORTH;
    }

    public int keeps(int c) {
        return waits(c) ? keepsOf(now, c) : -1;
    }

    public int row(int r) {
        return roadIs(r) ? now.rows.get(r).size() : -1;
    }

    public int hatch() {
        return open(now.hand);
    }

    public int open(int road) {
        if (!roadIs(road) || now.hatch >= 999) {
            return -2;
        }
        Step s = step(now, road, true);
        act(s.after);
        return s.let;
    }

    public int rehearse(int c, int words) {
        if (!waits(c) || words <= 0 || words >= 1 << told.words.size() || Integer.bitCount(words) > 4
                || words == now.reason[c]) {
            return NO_WORTH;
        }
        State s = now.copy();
        s.reason[c] = words;
        act(s);
        return worthOf(now, c);
    }

    private State turned(int c, int road) {
        State s = now.copy();
        s.rows.get(roadOf(s, c)).remove(Integer.valueOf(c));
        s.rows.get(road).add(c);
        return s;
    }

    public int turn(int c, int road) {
        if (!waits(c) || !roadIs(road) || roadOf(now, c) == road) {
            return -1;
        }
        act(turned(c, road));
        return now.rows.get(road).size() - 1;
    }

    public int revive(int w) {
        if (!wordIs(w) || now.moves[w] == told.words.get(w).moves) {
            return -1;
        }
        State s = now.copy();
        s.moves[w] = told.words.get(w).moves;
        act(s);
        return s.moves[w];
    }

    public int humour(int mood) {
        if (mood < 0 || mood > 99 || mood == now.mood) {
            return -1;
        }
        State s = now.copy();
        s.mood = mood;
        int was = now.mood;
        act(s);
        return was;
    }

    public boolean undo() {
        if (past.isEmpty()) {
            return false;
        }
        undone.addLast(now);
        now = past.removeLast();
        return true;
    }

    public boolean redo() {
        if (undone.isEmpty()) {
            return false;
        }
        past.addLast(now);
        now = undone.removeLast();
        return true;
    }

    public int will(int n, int what) {
        return n60(n) && (what == 0 || what == 1) ? by(ahead(now, n, what == 1)) : -1;
    }

    public int when(int c) {
        return comerIs(c) ? whenBy(now, c, 60) : -1;
    }

    public int clock(int n) {
        return n60(n) ? ahead(now, n, false).minutes : -1;
    }

    public int shortest(int c, int what) {
        return fewest(c, what, (1 << told.words.size()) - 1);
    }

    public int honest(int c, int what) {
        return comerIs(c) ? fewest(c, what, told.comers.get(c).reason) : -1;
    }

    private int fewest(int c, int what, int of) {
        if (!waits(c) || what < 0 || what > 1) {
            return -1;
        }
        int best = -1;
        for (int set = 255; set > 0; set--) {
            boolean does = (set | of) == of && Integer.bitCount(set) <= 4 && worthOf(now, c, set, now.mood) > 0;
            if (does && (best < 0 || Integer.bitCount(set) <= Integer.bitCount(best))) {
                best = set;
            }
        }
        return best < 0 ? -1 : what == 0 ? Integer.bitCount(best) : best;
    }

    public int soonest() {
        lying.clear();
        int all = (1 << told.comers.size()) - 1;
        List<State> states = new ArrayList<>(List.of(now));
        List<String> ways = new ArrayList<>(List.of(""));
        for (int n = 0; n <= 7; n++) {
            for (int i = 0; i < states.size(); i++) {
                if (by(states.get(i)) == all) {
                    for (char r : ways.get(i).toCharArray()) {
                        lying.add(r - '0');
                    }
                    return n;
                }
            }
            List<State> nextStates = new ArrayList<>();
            List<String> nextWays = new ArrayList<>();
            for (int i = 0; i < states.size() && n < 7; i++) {
                for (int r = 0; r < told.roads; r++) {
                    nextStates.add(step(states.get(i), r, false).after);
                    nextWays.add(ways.get(i) + r);
                }
            }
            states = nextStates;
            ways = nextWays;
        }
        return -1;
    }

    public int best(int c, int what) {
        if (!waits(c) || what < 0 || what > 1) {
            return -1;
        }
        int road = -1;
        int least = 61;
        for (int r = told.roads - 1; r >= 0; r--) {
            int w = whenBy(r == roadOf(now, c) ? now : turned(c, r), c, 60);
            if (w >= 0 && w <= least) {
                least = w;
                road = r;
            }
        }
        return road < 0 ? -1 : what == 0 ? road : least;
    }

    public int lull(int w) {
        if (!wordIs(w)) {
            return -1;
        }
        int times = 0;
        for (int m = now.moves[w]; m > 0; m -= told.words.get(w).tires) {
            if (told.words.get(w).tires == 0) {
                return -1;
            }
            times++;
        }
        return times;
    }

    public int rivals(int c, int o) {
        lying.clear();
        if (c == o || !waits(c) || !waits(o) || told.words.isEmpty()) {
            return -1;
        }
        int n = told.words.size();
        int[][] mine = new int[n][n];
        int[][] his = new int[n][n];
        for (int i = 0; i < n; i++) {
            for (int j = 0; j < n; j++) {
                State s = now.copy();
                s.reason[c] = 1 << i;
                s.reason[o] = 1 << j;
                int a = whenBy(s, c, 20);
                int b = whenBy(s, o, 20);
                mine[i][j] = a < 0 ? 21 : a;
                his[i][j] = b < 0 ? 21 : b;
            }
        }
        int rests = 0;
        for (int i = 0; i < n; i++) {
            for (int j = 0; j < n; j++) {
                boolean rest = true;
                for (int k = 0; k < n; k++) {
                    rest &= mine[k][j] >= mine[i][j] && his[i][k] >= his[i][j];
                }
                if (rest && rests++ == 0) {
                    lying.add(i);
                    lying.add(j);
                }
            }
        }
        return rests;
    }

    private int pressOf(State s, int n) {
        int sum = 0;
        State a = s;
        for (int i = 0; i < n; i++) {
            a = step(a, a.hand, false).after;
            for (int c = 0; c < told.comers.size(); c++) {
                sum += isBy(a, c) ? 0 : 1;
            }
        }
        return sum;
    }

    public int press(int n) {
        return n60(n) ? pressOf(now, n) : -1;
    }

    public int spark(int c, int what) {
        if (!waits(c) || what < 0 || what > 1 || Integer.bitCount(now.reason[c]) > 3) {
            return NO_WORTH;
        }
        return most(c, what, false);
    }

    public int drop(int c, int what) {
        if (!waits(c) || what < 0 || what > 1 || Integer.bitCount(now.reason[c]) == 1) {
            return NO_WORTH;
        }
        return most(c, what, true);
    }

    private int most(int c, int what, boolean said) {
        int word = -1;
        for (int w = told.words.size() - 1; w >= 0; w--) {
            if ((now.reason[c] & 1 << w) != 0 == said && (word < 0
                    || worthOf(now, c, now.reason[c] ^ 1 << w, now.mood) >= worthOf(now, c, now.reason[c] ^ 1 << word, now.mood))) {
                word = w;
            }
        }
        return word < 0 ? NO_WORTH : what == 0 ? word : worthOf(now, c, now.reason[c] ^ 1 << word, now.mood);
    }

    public int spends(int c) {
        if (!waits(c)) {
            return -1;
        }
        int sum = 0;
        State a = now;
        for (int i = 0; i < 60; i++) {
            Step s = step(a, a.hand, false);
            sum += s.heard == c ? s.kept : 0;
            if (s.let == c) {
                return sum;
            }
            a = s.after;
        }
        return -1;
    }

    public int echoes(int w, int n) {
        if (!wordIs(w) || !n60(n)) {
            return -1;
        }
        int times = 0;
        State a = now;
        for (int i = 0; i < n; i++) {
            Step s = step(a, a.hand, false);
            times += s.heard >= 0 && (a.reason[s.heard] & 1 << w) != 0 ? 1 : 0;
            a = s.after;
        }
        return times;
    }

    public int coax(int c) {
        for (int m = 0; m < 100 && waits(c); m++) {
            if (worthOf(now, c, now.reason[c], m) > 0) {
                return m;
            }
        }
        return -1;
    }

    public int clears(int r, int n) {
        if (!roadIs(r) || !n60(n)) {
            return -1;
        }
        int bits = 0;
        State a = ahead(now, n, false);
        for (int c : now.rows.get(r)) {
            bits |= isBy(a, c) ? 1 << c : 0;
        }
        return bits;
    }

    public int reorder(int n, int what) {
        if (!n60(n) || what < 0 || what > 2) {
            return -1;
        }
        int[] best = null;
        for (int c = 0; c < told.comers.size(); c++) {
            for (int o = 0; o < told.comers.size(); o++) {
                if (o <= c || !waits(c) || !waits(o) || roadOf(now, c) != roadOf(now, o)) {
                    continue;
                }
                State s = now.copy();
                List<Integer> row = s.rows.get(roadOf(s, c));
                int i = row.indexOf(c);
                int j = row.indexOf(o);
                row.set(i, o);
                row.set(j, c);
                int p = pressOf(s, n);
                if (p < pressOf(now, n) && (best == null || p < best[2])) {
                    best = new int[] {c, o, p};
                }
            }
        }
        return best == null ? -1 : best[what];
    }

    public int jam() {
        return (1 << told.comers.size()) - 1 - by(ahead(now, 60, false));
    }

    public int ready() {
        int bits = 0;
        for (List<Integer> row : now.rows) {
            if (!row.isEmpty() && worthOf(now, row.get(0)) > 0) {
                bits += 1 << row.get(0);
            }
        }
        return bits;
    }

    public int oldest() {
        int old = -1;
        for (int c = told.comers.size() - 1; c >= 0; c--) {
            if (waits(c) && (old < 0 || now.waited[c] >= now.waited[old])) {
                old = c;
            }
        }
        return old;
    }

    public int law(int n) {
        if (n < 0 || n > 99) {
            return -1;
        }
        int many = 0;
        for (int c = 0; c < told.comers.size(); c++) {
            many += waits(c) && worthOf(now, c, now.reason[c], n) > 0 ? 1 : 0;
        }
        return many;
    }

    public int fashion() {
        int best = -1;
        for (int w = told.words.size() - 1; w >= 0; w--) {
            if (best < 0 || Integer.bitCount(sayers(w)) >= Integer.bitCount(sayers(best))) {
                best = w;
            }
        }
        return best;
    }

    public int temper(int n) {
        return n60(n) ? ahead(now, n, false).mood : -1;
    }

    public int odds(int n, int part) {
        if (n < 0 || n > 4 || part < 0 || part > 1) {
            return -1;
        }
        java.math.BigInteger up = java.math.BigInteger.valueOf(100 - told.whim).pow(n);
        java.math.BigInteger low = java.math.BigInteger.valueOf(100).pow(n);
        java.math.BigInteger g = up.gcd(low);
        return (part == 0 ? up : low).divide(g).intValueExact();
    }

    public int lies(int i) {
        return i >= 0 && i < lying.size() ? lying.get(i) : -1;
    }

    public int seen(int hatches, int c, boolean is) {
        if (hatches < 0 || hatches > 20 || !comerIs(c) || sightings.size() >= 30) {
            return -1;
        }
        sightings.add(new Sighting(hatches, c, is, time));
        return sightings.size() - 1;
    }

    public boolean untell(int s) {
        return s >= 0 && s < sightings.size() && untold.putIfAbsent(s, time) == null;
    }

    public int later(int by) {
        if (by < 0 || by > 1000 || time + by > 100000) {
            return -1;
        }
        time += by;
        return time;
    }

    private State supposed(int m, int n) {
        State s = begin();
        s.moves[told.words.size() - 1] = m;
        return ahead(s, n, false);
    }

    private List<Integer> fitting(int k) {
        List<Integer> all = new ArrayList<>();
        for (int m = 0; m < 100 && !told.words.isEmpty(); m++) {
            boolean fits = true;
            for (int i = 0; i < sightings.size(); i++) {
                Sighting s = sightings.get(i);
                if (s.at <= k && (!untold.containsKey(i) || untold.get(i) > k)) {
                    fits &= isBy(supposed(m, s.hatches), s.comer) == s.is;
                }
            }
            if (fits) {
                all.add(m);
            }
        }
        return all;
    }

    public int fits(int k) {
        return fitting(k).size();
    }

    public int sure(int what, int k) {
        List<Integer> f = fitting(k);
        return f.isEmpty() || what < 0 || what > 1 ? -1 : what == 0 ? f.get(0) : f.get(f.size() - 1);
    }

    public int ask(int what, int k) {
        List<Integer> f = fitting(k);
        if (f.isEmpty() || what < 0 || what > 1) {
            return -1;
        }
        int best = -1;
        int least = 101;
        for (int h = 20; h >= 0; h--) {
            Map<Integer, Integer> groups = new HashMap<>();
            int most = 0;
            for (int m : f) {
                most = Math.max(most, groups.merge(by(supposed(m, h)), 1, Integer::sum));
            }
            if (most <= least) {
                least = most;
                best = h;
            }
        }
        return what == 0 ? best : least;
    }

    public int image(int box) {
        if (box < 0 || box > 2) {
            return -1;
        }
        boxes.put(box, now.copy());
        return now.hatch;
    }

    public int back(int box) {
        if (!boxes.containsKey(box)) {
            return -1;
        }
        now = boxes.get(box).copy();
        past.clear();
        undone.clear();
        return now.hatch;
    }

    public int about(int what) {
        return switch (what) {
            case 0 -> told.comers.size();
            case 1 -> told.words.size();
            case 2 -> told.roads;
            case 3 -> by(now);
            case 4 -> now.mood;
            case 5 -> now.minutes;
            case 6 -> now.hatch;
            case 7 -> now.hand;
            case 8 -> now.seed;
            case 9 -> past.size();
            case 10 -> undone.size();
            case 11 -> sightings.size();
            case 12 -> time;
            case 13 -> tape.length();
            case 14 -> told.units;
            case 15 -> lying.size();
            default -> -1;
        };
    }
}
