import java.util.Arrays;

/**
 * A crossing with a recluse at its lever: comers wait in the rows of roads and give reasons through a hatch, and are
 * let by or go behind their row. The document DOC.md numbers what each call promises.
 */
public final class HatchLights {
    /** There is none. */
    public static final int NONE = -1;

    private static final int NOTHING_SUCH = -2;
    private static final int NO_WORTH = -1000000000;

    private static final int TAPE_BYTES = 1600;
    private static final int MOST_ROADS = 4;
    private static final int MOST_WORDS = 8;
    private static final int MOST_COMERS = 8;
    private static final int MOST_SAID = 4;
    private static final int MOST_UNITS = 60;
    private static final int MOST_UNITS_HERE = 30;
    private static final int MOST_AROUND = 6;
    private static final int MOST_ACTS = 40;
    private static final int MOST_SEEN = 30;
    private static final int BOXES = 3;

    private static final int TOP = 99;
    private static final int MOST_WAITED = 999;
    private static final int MOST_KEPT = 999;
    private static final int LAST_HATCH = 999;
    private static final int FAR = 60;
    private static final int RIVAL_HATCHES = 20;
    private static final int SEEN_HATCHES = 20;
    private static final int SOONEST_HATCHES = 7;
    private static final int ODDS_HATCHES = 4;
    private static final int LONGEST_STEP = 1000;
    private static final int LAST_TIME = 100000;

    // Kinds of tokens: the words in the order of KEYWORDS, the signs in that of SIGNS, then the others.
    private static final String KEYWORDS = "roads   word    moves   tires   comer   road    says    mood    worth   keeps   whim    draw    or      and     not     moved   many    waited  behind  hatch   ";
    private static final int LONGEST_WORD = 8;
    private static final int LONGEST_NUMBER = 4;
    private static final int KEYWORD_COUNT = 20;
    private static final int ROADS = 0;
    private static final int WORD = 1;
    private static final int MOVES = 2;
    private static final int TIRES = 3;
    private static final int COMER = 4;
    private static final int ROAD = 5;
    private static final int SAYS = 6;
    private static final int MOOD = 7;
    private static final int WORTH = 8;
    private static final int KEEPS = 9;
    private static final int WHIM = 10;
    private static final int DRAW = 11;
    private static final int OR = 12;
    private static final int AND = 13;
    private static final int NOT = 14;
    private static final int MOVED = 15;
    private static final int MANY = 16;
    private static final int WAITED = 17;
    private static final int BEHIND = 18;
    private static final int HATCH = 19;
    private static final String SIGNS = ";()<>=+-*/%";
    private static final int SEMICOLON = 20;
    private static final int OPENING = 21;
    private static final int CLOSING = 22;
    private static final int LESS = 23;
    private static final int MORE = 24;
    private static final int EQUAL = 25;
    private static final int PLUS = 26;
    private static final int MINUS = 27;
    private static final int TIMES = 28;
    private static final int SHARE = 29;
    private static final int REST = 30;
    private static final int NAME = 31;
    private static final int NUMBER = 32;
    private static final int END = 33;
    private static final int NO_TOKEN = 34;

    // Levels of the grammar of e, from the outermost on.
    private static final int OR_LEVEL = 0;
    private static final int AND_LEVEL = 1;
    private static final int RELATION_LEVEL = 2;
    private static final int SUM_LEVEL = 3;
    private static final int TERM_LEVEL = 4;
    private static final int UNIT_LEVEL = 5;

    private static final int FAULT_TOKEN = 1;
    private static final int FAULT_PLACE = 2;
    private static final int FAULT_TOLD = 3;
    private static final int FAULT_NUMBER = 4;
    private static final int FAULT_UNKNOWN = 5;

    private final Tape tape = new Tape();
    private final Reader reader = new Reader();
    private final Told told = new Told();
    private final Scene now = new Scene(told);
    private final Scene trial = new Scene(told);
    private final Scene[] path = new Scene[SOONEST_HATCHES + 1];
    private final Acts acts = new Acts(told);
    private final Scene[] boxes = new Scene[BOXES];
    private final boolean[] boxFull = new boolean[BOXES];
    private final Sightings sightings = new Sightings(told);
    private final int[] lying = new int[SOONEST_HATCHES];
    private final int[] delays = new int[MOST_WORDS * MOST_WORDS];
    private final int[] otherDelays = new int[MOST_WORDS * MOST_WORDS];
    private int lyingCount = 0;
    private int time = 0;

    /** An empty crossing. */
    public HatchLights() {
        for (int i = 0; i < path.length; i++) {
            path[i] = new Scene(told);
        }
        for (int i = 0; i < boxes.length; i++) {
            boxes[i] = new Scene(told);
        }
        startAsTold();
    }

    // ---- the text

    public int feed(int a, int b, int c, int d, int e) {
        if (tape.length + 20 > TAPE_BYTES) {
            return NONE;
        }
        tape.put(a);
        tape.put(b);
        tape.put(c);
        tape.put(d);
        tape.put(e);
        return tape.length;
    }

    public int end(int n) {
        if (n < 0 || n > tape.length) {
            return NONE;
        }
        tape.length = n;
        return n;
    }

    public int crossing() {
        if (!reader.read(tape)) {
            return NONE;
        }
        told.copy(reader.draft);
        tape.length = 0;
        startAsTold();
        return told.comers;
    }

    public int fault(int what) {
        switch (what) {
            case 0:
                return reader.fault;
            case 1:
                return reader.place;
            default:
                return NONE;
        }
    }

    private void startAsTold() {
        now.begin();
        acts.forget(now);
        sightings.forget();
        for (int i = 0; i < boxFull.length; i++) {
            boxFull[i] = false;
        }
        lyingCount = 0;
    }

    // ---- what is so

    public int word(int word, int what) {
        if (!isWord(word)) {
            return NOTHING_SUCH;
        }
        switch (what) {
            case 0:
                return now.moves[word];
            case 1:
                return told.tires[word];
            case 2:
                return now.sayers(word);
            default:
                return NOTHING_SUCH;
        }
    }

    public int comer(int comer, int what) {
        if (!isComer(comer)) {
            return NOTHING_SUCH;
        }
        switch (what) {
            case 0:
                return now.road[comer];
            case 1:
                return now.place[comer];
            case 2:
                return now.reason[comer];
            case 3:
                return now.waited[comer];
            case 4:
                return told.reason[comer];
            default:
                return NOTHING_SUCH;
        }
    }

    public int worth(int comer) {
        return isWaiting(comer) ? now.worthOf(comer) : NO_WORTH;
    }

    public int keeps(int comer) {
        return isWaiting(comer) ? now.keepsOf(comer) : NONE;
    }

    public int row(int road) {
        return isRoad(road) ? now.size[road] : NONE;
    }

    public int ready() {
        int who = 0;
        for (int comer = 0; comer < told.comers; comer++) {
            if (now.place[comer] == 0 && now.worthOf(comer) > 0) {
                who |= 1 << comer;
            }
        }
        return who;
    }

    public int oldest() {
        int oldest = NONE;
        for (int comer = 0; comer < told.comers; comer++) {
            if (isWaiting(comer) && (oldest == NONE || now.waited[comer] > now.waited[oldest])) {
                oldest = comer;
            }
        }
        return oldest;
    }

    public int fashion() {
        int most = NONE;
        int mostSayers = NONE;
        for (int word = 0; word < told.words; word++) {
            int sayers = Integer.bitCount(now.sayers(word));
            if (sayers > mostSayers) {
                mostSayers = sayers;
                most = word;
            }
        }
        return most;
    }

    public int lull(int word) {
        if (!isWord(word)) {
            return NONE;
        }
        int moves = now.moves[word];
        int tires = told.tires[word];
        if (moves == 0) {
            return 0;
        }
        return tires > 0 ? (moves + tires - 1) / tires : NONE;
    }

    public int lies(int i) {
        return i >= 0 && i < lyingCount && i < lying.length ? lying[i] : NONE;
    }

    public int about(int what) {
        switch (what) {
            case 0:
                return told.comers;
            case 1:
                return told.words;
            case 2:
                return told.roads;
            case 3:
                return now.whoIsBy();
            case 4:
                return now.mood;
            case 5:
                return now.minutes;
            case 6:
                return now.hatches;
            case 7:
                return now.hand;
            case 8:
                return now.seed;
            case 9:
                return acts.done;
            case 10:
                return acts.kept - acts.done;
            case 11:
                return sightings.count;
            case 12:
                return time;
            case 13:
                return tape.length;
            case 14:
                return told.units;
            case 15:
                return lyingCount;
            default:
                return NONE;
        }
    }

    private boolean isComer(int comer) {
        return comer >= 0 && comer < told.comers;
    }

    private boolean isWaiting(int comer) {
        return isComer(comer) && now.road[comer] >= 0;
    }

    private boolean isWord(int word) {
        return word >= 0 && word < told.words;
    }

    private boolean isRoad(int road) {
        return road >= 0 && road < told.roads;
    }

    private static boolean isAhead(int n) {
        return n >= 0 && n <= FAR;
    }

    private static boolean isEither(int what) {
        return what == 0 || what == 1;
    }

    // ---- acts

    public int hatch() {
        return openInEarnest(now.hand);
    }

    public int open(int road) {
        return isRoad(road) ? openInEarnest(road) : NOTHING_SUCH;
    }

    private int openInEarnest(int road) {
        if (now.hatches >= LAST_HATCH) {
            return NOTHING_SUCH;
        }
        boolean whim = now.drawWhim();
        int heard = now.openTo(road, whim);
        acts.add(now);
        return heard != NONE && !isWaiting(heard) ? heard : NONE;
    }

    public int rehearse(int comer, int words) {
        if (!isWaiting(comer) || !isReason(words) || now.reason[comer] == words) {
            return NO_WORTH;
        }
        now.reason[comer] = words;
        acts.add(now);
        return now.worthOf(comer);
    }

    private boolean isReason(int words) {
        int many = Integer.bitCount(words);
        return (words & ~told.allWords()) == 0 && many >= 1 && many <= MOST_SAID;
    }

    public int turn(int comer, int road) {
        if (!isWaiting(comer) || !isRoad(road) || now.road[comer] == road) {
            return NONE;
        }
        now.takeRoad(comer, road);
        acts.add(now);
        return now.place[comer];
    }

    public int revive(int word) {
        if (!isWord(word) || now.moves[word] == told.moves[word]) {
            return NONE;
        }
        now.moves[word] = told.moves[word];
        acts.add(now);
        return now.moves[word];
    }

    public int humour(int mood) {
        if (mood < 0 || mood > TOP || mood == now.mood) {
            return NONE;
        }
        int was = now.mood;
        now.mood = mood;
        acts.add(now);
        return was;
    }

    public boolean undo() {
        return acts.takeBack(now);
    }

    public boolean redo() {
        return acts.doAgain(now);
    }

    public int image(int box) {
        if (box < 0 || box >= BOXES) {
            return NONE;
        }
        boxes[box].copy(now);
        boxFull[box] = true;
        return now.hatches;
    }

    public int back(int box) {
        if (box < 0 || box >= BOXES || !boxFull[box]) {
            return NONE;
        }
        now.copy(boxes[box]);
        acts.forget(now);
        return now.hatches;
    }

    // ---- what lies ahead

    public int will(int n, int what) {
        if (!isAhead(n) || !isEither(what)) {
            return NONE;
        }
        trial.copy(now);
        for (int i = 0; i < n; i++) {
            boolean whim = what == 1 && trial.drawWhim();
            trial.openTo(trial.hand, whim);
        }
        return trial.whoIsBy();
    }

    public int when(int comer) {
        if (!isComer(comer)) {
            return NONE;
        }
        trial.copy(now);
        return hatchesTill(comer);
    }

    /** Goes on with the trial till a comer is by: behind how many hatches, NONE if he is not in FAR. */
    private int hatchesTill(int comer) {
        for (int n = 0; n <= FAR; n++) {
            if (trial.road[comer] < 0) {
                return n;
            }
            trial.openTo(trial.hand, false);
        }
        return NONE;
    }

    private void lookAhead(int n) {
        trial.copy(now);
        for (int i = 0; i < n; i++) {
            trial.openTo(trial.hand, false);
        }
    }

    public int clock(int n) {
        if (!isAhead(n)) {
            return NONE;
        }
        lookAhead(n);
        return trial.minutes;
    }

    public int temper(int n) {
        if (!isAhead(n)) {
            return NONE;
        }
        lookAhead(n);
        return trial.mood;
    }

    public int clears(int road, int n) {
        if (!isRoad(road) || !isAhead(n)) {
            return NONE;
        }
        lookAhead(n);
        int who = 0;
        for (int comer = 0; comer < told.comers; comer++) {
            if (now.road[comer] == road && trial.road[comer] < 0) {
                who |= 1 << comer;
            }
        }
        return who;
    }

    public int jam() {
        lookAhead(FAR);
        return told.allComers() & ~trial.whoIsBy();
    }

    public int press(int n) {
        if (!isAhead(n)) {
            return NONE;
        }
        trial.copy(now);
        return pressOfTrial(n);
    }

    private int pressOfTrial(int n) {
        int waits = 0;
        for (int i = 0; i < n && trial.waiting() > 0; i++) {
            trial.openTo(trial.hand, false);
            waits += trial.waiting();
        }
        return waits;
    }

    public int reorder(int n, int what) {
        if (!isAhead(n) || what < 0 || what > 2) {
            return NONE;
        }
        trial.copy(now);
        int least = pressOfTrial(n);
        int first = NONE;
        int second = NONE;
        for (int comer = 0; comer < told.comers; comer++) {
            for (int other = comer + 1; other < told.comers; other++) {
                if (now.road[comer] < 0 || now.road[comer] != now.road[other]) {
                    continue;
                }
                trial.copy(now);
                trial.exchange(comer, other);
                int press = pressOfTrial(n);
                if (press < least) {
                    least = press;
                    first = comer;
                    second = other;
                }
            }
        }
        if (first == NONE) {
            return NONE;
        }
        return what == 0 ? first : what == 1 ? second : least;
    }

    public int spends(int comer) {
        if (!isWaiting(comer)) {
            return NONE;
        }
        trial.copy(now);
        int minutes = 0;
        for (int i = 0; i < FAR && trial.road[comer] >= 0; i++) {
            int before = trial.minutes;
            if (trial.openTo(trial.hand, false) == comer) {
                minutes += trial.minutes - before;
            }
        }
        return trial.road[comer] < 0 ? minutes : NONE;
    }

    public int echoes(int word, int n) {
        if (!isWord(word) || !isAhead(n)) {
            return NONE;
        }
        trial.copy(now);
        int times = 0;
        for (int i = 0; i < n; i++) {
            int heard = trial.openTo(trial.hand, false);
            if (heard != NONE && (trial.reason[heard] >> word & 1) == 1) {
                times++;
            }
        }
        return times;
    }

    public int best(int comer, int what) {
        if (!isWaiting(comer) || !isEither(what)) {
            return NONE;
        }
        int bestRoad = NONE;
        int fewest = FAR + 1;
        for (int road = 0; road < told.roads; road++) {
            trial.copy(now);
            if (now.road[comer] != road) {
                trial.takeRoad(comer, road);
            }
            int hatches = hatchesTill(comer);
            if (hatches != NONE && hatches < fewest) {
                fewest = hatches;
                bestRoad = road;
            }
        }
        if (bestRoad == NONE) {
            return NONE;
        }
        return what == 0 ? bestRoad : fewest;
    }

    public int soonest() {
        lyingCount = 0;
        path[0].copy(now);
        for (int hatches = 0; hatches <= SOONEST_HATCHES; hatches++) {
            if (allByWithin(0, hatches)) {
                lyingCount = hatches;
                return hatches;
            }
        }
        return NONE;
    }

    /** Tries all roads from path[depth] on; those by which all are by in time lie there then. */
    private boolean allByWithin(int depth, int hatches) {
        Scene scene = path[depth];
        int waiting = scene.waiting();
        if (waiting == 0) {
            return true;
        }
        if (waiting > hatches - depth || depth >= SOONEST_HATCHES) {
            return false;
        }
        boolean triedNobody = false;
        for (int road = 0; road < told.roads; road++) {
            boolean nobody = scene.size[road] == 0;
            // What follows on a hatch to nobody is the same by whichever road, so the first such one is enough.
            if (nobody && triedNobody) {
                continue;
            }
            triedNobody |= nobody;
            path[depth + 1].copy(scene);
            path[depth + 1].openTo(road, false);
            lying[depth] = road;
            if (allByWithin(depth + 1, hatches)) {
                return true;
            }
        }
        return false;
    }

    public int rivals(int comer, int other) {
        lyingCount = 0;
        if (comer == other || !isWaiting(comer) || !isWaiting(other)) {
            return NONE;
        }
        for (int said = 0; said < told.words; said++) {
            for (int answered = 0; answered < told.words; answered++) {
                tryRivals(comer, said, other, answered);
            }
        }
        int rests = 0;
        for (int said = 0; said < told.words; said++) {
            for (int answered = 0; answered < told.words; answered++) {
                if (isRest(said, answered)) {
                    if (rests == 0) {
                        lying[0] = said;
                        lying[1] = answered;
                        lyingCount = 2;
                    }
                    rests++;
                }
            }
        }
        return rests;
    }

    private void tryRivals(int comer, int said, int other, int answered) {
        int late = RIVAL_HATCHES + 1;
        int delay = late;
        int otherDelay = late;
        trial.copy(now);
        trial.reason[comer] = 1 << said;
        trial.reason[other] = 1 << answered;
        for (int n = 1; n <= RIVAL_HATCHES && (delay == late || otherDelay == late); n++) {
            int heard = trial.openTo(trial.hand, false);
            if (heard == comer && trial.road[comer] < 0) {
                delay = n;
            }
            if (heard == other && trial.road[other] < 0) {
                otherDelay = n;
            }
        }
        delays[said * MOST_WORDS + answered] = delay;
        otherDelays[said * MOST_WORDS + answered] = otherDelay;
    }

    private boolean isRest(int said, int answered) {
        int here = said * MOST_WORDS + answered;
        for (int word = 0; word < told.words; word++) {
            if (delays[word * MOST_WORDS + answered] < delays[here]) {
                return false;
            }
            if (otherDelays[said * MOST_WORDS + word] < otherDelays[here]) {
                return false;
            }
        }
        return true;
    }

    // ---- what other reasons and moods would do now

    public int shortest(int comer, int what) {
        return isWaiting(comer) && isEither(what) ? fewestWords(comer, told.allWords(), what) : NONE;
    }

    public int honest(int comer, int what) {
        return isWaiting(comer) && isEither(what) ? fewestWords(comer, told.reason[comer], what) : NONE;
    }

    private int fewestWords(int comer, int from, int what) {
        for (int many = 1; many <= MOST_SAID; many++) {
            for (int words = 1; words <= from; words++) {
                if ((words & ~from) == 0 && Integer.bitCount(words) == many && now.worthSaying(comer, words) > 0) {
                    return what == 0 ? many : words;
                }
            }
        }
        return NONE;
    }

    public int spark(int comer, int what) {
        if (!isWaiting(comer) || !isEither(what)) {
            return NO_WORTH;
        }
        int said = now.reason[comer];
        if (Integer.bitCount(said) >= MOST_SAID) {
            return NO_WORTH;
        }
        return mostWorth(comer, told.allWords() & ~said, what);
    }

    public int drop(int comer, int what) {
        if (!isWaiting(comer) || !isEither(what)) {
            return NO_WORTH;
        }
        int said = now.reason[comer];
        if (Integer.bitCount(said) < 2) {
            return NO_WORTH;
        }
        return mostWorth(comer, said, what);
    }

    /** That one of some words by which, said too or no more, a comer's reason has most worth. */
    private int mostWorth(int comer, int words, int what) {
        int best = NONE;
        int most = 0;
        for (int word = 0; word < told.words; word++) {
            if ((words >> word & 1) == 1) {
                int worth = now.worthSaying(comer, now.reason[comer] ^ 1 << word);
                if (best == NONE || worth > most) {
                    best = word;
                    most = worth;
                }
            }
        }
        if (best == NONE) {
            return NO_WORTH;
        }
        return what == 0 ? best : most;
    }

    public int coax(int comer) {
        if (!isWaiting(comer)) {
            return NONE;
        }
        for (int mood = 0; mood <= TOP; mood++) {
            if (now.worthInMood(comer, mood) > 0) {
                return mood;
            }
        }
        return NONE;
    }

    public int law(int n) {
        if (n < 0 || n > TOP) {
            return NONE;
        }
        int many = 0;
        for (int comer = 0; comer < told.comers; comer++) {
            if (isWaiting(comer) && now.worthInMood(comer, n) > 0) {
                many++;
            }
        }
        return many;
    }

    public int odds(int n, int part) {
        if (n < 0 || n > ODDS_HATCHES || !isEither(part)) {
            return NONE;
        }
        // Lowest terms of a power are the powers of the lowest terms.
        int common = commonDivisor(100, 100 - told.whim);
        int upper = common > 0 ? (100 - told.whim) / common : 0;
        int lower = common > 0 ? 100 / common : 1;
        int base = part == 0 ? upper : lower;
        int power = 1;
        for (int i = 0; i < n; i++) {
            power *= base;
        }
        return power;
    }

    private static int commonDivisor(int a, int b) {
        int larger = a;
        int smaller = b;
        for (int i = 0; i < 100 && smaller > 0; i++) {
            int rest = larger % smaller;
            larger = smaller;
            smaller = rest;
        }
        return larger;
    }

    // ---- what is seen

    public int seen(int hatches, int comer, boolean is) {
        if (hatches < 0 || hatches > SEEN_HATCHES || !isComer(comer)) {
            return NONE;
        }
        return sightings.add(hatches, comer, is, time);
    }

    public boolean untell(int seen) {
        return sightings.takeBack(seen, time);
    }

    public int later(int by) {
        if (by < 0 || by > LONGEST_STEP || time + by > LAST_TIME) {
            return NONE;
        }
        time += by;
        return time;
    }

    public int fits(int k) {
        return sightings.findFitting(k);
    }

    public int sure(int what, int k) {
        int many = sightings.findFitting(k);
        if (many == 0 || !isEither(what)) {
            return NONE;
        }
        return sightings.fitting[what == 0 ? 0 : many - 1];
    }

    public int ask(int what, int k) {
        int many = sightings.findFitting(k);
        if (many == 0 || !isEither(what)) {
            return NONE;
        }
        int bestHatches = 0;
        int fewest = many + 1;
        for (int hatches = 0; hatches <= SEEN_HATCHES; hatches++) {
            int left = sightings.mostAlike(hatches, many);
            if (left < fewest) {
                fewest = left;
                bestHatches = hatches;
            }
        }
        return what == 0 ? bestHatches : fewest;
    }

    /** The bytes that are to be the next crossing. */
    private static final class Tape {
        final byte[] bytes = new byte[TAPE_BYTES];
        int length = 0;

        void put(int number) {
            for (int shift = 24; shift >= 0 && length < TAPE_BYTES; shift -= 8) {
                bytes[length] = (byte) (number >> shift);
                length++;
            }
        }
    }

    /** The tape cut into tokens, up to its end or to the first place where there is none. */
    private static final class Tokens {
        final int[] kinds = new int[TAPE_BYTES + 1];
        final int[] places = new int[TAPE_BYTES + 1];
        /** Of a number what it is, of a name its letters, five bits each. */
        final long[] values = new long[TAPE_BYTES + 1];
        int count = 0;

        void cut(Tape tape) {
            count = 0;
            int at = 0;
            for (int i = 0; i <= tape.length; i++) {
                at = skipBlanks(tape, at);
                places[count] = at;
                values[count] = 0;
                at += at < tape.length ? cutOne(tape, at) : cutEnd();
                int kind = kinds[count];
                count++;
                if (kind == END || kind == NO_TOKEN) {
                    return;
                }
            }
        }

        private int skipBlanks(Tape tape, int from) {
            int at = from;
            while (at < tape.length && (tape.bytes[at] == 32 || tape.bytes[at] == 10)) {
                at++;
            }
            return at;
        }

        private int cutEnd() {
            kinds[count] = END;
            return 0;
        }

        /** Sets the token at a place; answers how many bytes it has. */
        private int cutOne(Tape tape, int at) {
            int sign = tape.bytes[at];
            if (isLetter(sign)) {
                return cutWord(tape, at);
            }
            if (isDigit(sign)) {
                return cutNumber(tape, at);
            }
            int index = sign > 0 ? SIGNS.indexOf((char) sign) : -1;
            kinds[count] = index >= 0 ? SEMICOLON + index : NO_TOKEN;
            return 1;
        }

        private int cutWord(Tape tape, int from) {
            int at = from;
            while (at < tape.length && isLetter(tape.bytes[at])) {
                at++;
            }
            int letters = at - from;
            if (letters > LONGEST_WORD) {
                kinds[count] = NO_TOKEN;
                return letters;
            }
            long name = 0;
            for (int i = from; i < at; i++) {
                name = name * 32 + (tape.bytes[i] - 'a' + 1);
            }
            values[count] = name;
            kinds[count] = kindOfWord(tape, from, letters);
            return letters;
        }

        private int kindOfWord(Tape tape, int from, int letters) {
            for (int keyword = 0; keyword < KEYWORD_COUNT; keyword++) {
                boolean same = true;
                for (int i = 0; i < LONGEST_WORD && same; i++) {
                    int letter = i < letters ? tape.bytes[from + i] : ' ';
                    same = KEYWORDS.charAt(keyword * LONGEST_WORD + i) == letter;
                }
                if (same) {
                    return keyword;
                }
            }
            return NAME;
        }

        private int cutNumber(Tape tape, int from) {
            int at = from;
            int number = 0;
            while (at < tape.length && isDigit(tape.bytes[at])) {
                number = number * 10 + (tape.bytes[at] - '0');
                at++;
            }
            boolean letterBehind = at < tape.length && isLetter(tape.bytes[at]);
            kinds[count] = at - from > LONGEST_NUMBER || letterBehind ? NO_TOKEN : NUMBER;
            values[count] = number;
            return at - from;
        }

        private static boolean isLetter(int sign) {
            return sign >= 'a' && sign <= 'z';
        }

        private static boolean isDigit(int sign) {
            return sign >= '0' && sign <= '9';
        }
    }

    /** A crossing as it was told. */
    private static final class Told {
        int roads;
        int words;
        int comers;
        int mood;
        int whim;
        int draw;
        int units;
        final int[] moves = new int[MOST_WORDS];
        final int[] tires = new int[MOST_WORDS];
        final int[] road = new int[MOST_COMERS];
        final int[] reason = new int[MOST_COMERS];
        final Formula worth = new Formula();
        final Formula keeps = new Formula();

        Told() {
            clear();
        }

        void clear() {
            roads = MOST_ROADS;
            words = 0;
            comers = 0;
            mood = 50;
            whim = 0;
            draw = 0;
            units = 0;
            worth.clear();
            worth.add(MOVED, 0);
            worth.add(NUMBER, 9);
            worth.add(MINUS, 0);
            keeps.clear();
            keeps.add(NUMBER, 5);
            keeps.add(MANY, 0);
            keeps.add(TIMES, 0);
        }

        void copy(Told from) {
            roads = from.roads;
            words = from.words;
            comers = from.comers;
            mood = from.mood;
            whim = from.whim;
            draw = from.draw;
            units = from.units;
            System.arraycopy(from.moves, 0, moves, 0, MOST_WORDS);
            System.arraycopy(from.tires, 0, tires, 0, MOST_WORDS);
            System.arraycopy(from.road, 0, road, 0, MOST_COMERS);
            System.arraycopy(from.reason, 0, reason, 0, MOST_COMERS);
            worth.copy(from.worth);
            keeps.copy(from.keeps);
        }

        int allWords() {
            return (1 << words) - 1;
        }

        int allComers() {
            return (1 << comers) - 1;
        }
    }

    /** What a formula is worked out by. */
    private static final class Facts {
        int moved;
        int many;
        int waited;
        int behind;
        int mood;
        int hatch;

        int get(int kind) {
            switch (kind) {
                case MOVED:
                    return moved;
                case MANY:
                    return many;
                case WAITED:
                    return waited;
                case BEHIND:
                    return behind;
                case MOOD:
                    return mood;
                case HATCH:
                    return hatch;
                default:
                    return 0;
            }
        }
    }

    /** An e of the text, its signs behind what they join. */
    private static final class Formula {
        // 30 units, 29 signs that join them, at most 7 nots ahead of each.
        private static final int MOST_PARTS = 300;
        // At most five sides wait at each of 8 levels of brackets, and one is at hand.
        private static final int MOST_WAITING = 48;

        private final int[] kinds = new int[MOST_PARTS];
        private final int[] numbers = new int[MOST_PARTS];
        private final int[] stack = new int[MOST_WAITING];
        private int size = 0;

        void clear() {
            size = 0;
        }

        void add(int kind, int number) {
            if (size < MOST_PARTS) {
                kinds[size] = kind;
                numbers[size] = number;
                size++;
            }
        }

        void copy(Formula from) {
            size = from.size;
            System.arraycopy(from.kinds, 0, kinds, 0, size);
            System.arraycopy(from.numbers, 0, numbers, 0, size);
        }

        int valueBy(Facts facts) {
            int top = 0;
            for (int i = 0; i < size; i++) {
                int kind = kinds[i];
                if (kind == NOT) {
                    if (top < 1) {
                        return 0;
                    }
                    stack[top - 1] = stack[top - 1] == 0 ? 1 : 0;
                } else if (levelOf(kind) < UNIT_LEVEL) {
                    if (top < 2) {
                        return 0;
                    }
                    top--;
                    stack[top - 1] = join(kind, stack[top - 1], stack[top]);
                } else {
                    if (top >= MOST_WAITING) {
                        return 0;
                    }
                    stack[top] = kind == NUMBER ? numbers[i] : facts.get(kind);
                    top++;
                }
            }
            return top > 0 ? stack[top - 1] : 0;
        }

        /** The level of the grammar at which a sign joins; UNIT_LEVEL if it joins nothing. */
        static int levelOf(int kind) {
            switch (kind) {
                case OR:
                    return OR_LEVEL;
                case AND:
                    return AND_LEVEL;
                case LESS:
                case MORE:
                case EQUAL:
                    return RELATION_LEVEL;
                case PLUS:
                case MINUS:
                    return SUM_LEVEL;
                case TIMES:
                case SHARE:
                case REST:
                    return TERM_LEVEL;
                default:
                    return UNIT_LEVEL;
            }
        }

        private static int join(int kind, int a, int b) {
            switch (kind) {
                case OR:
                    return a != 0 || b != 0 ? 1 : 0;
                case AND:
                    return a != 0 && b != 0 ? 1 : 0;
                case LESS:
                    return a < b ? 1 : 0;
                case MORE:
                    return a > b ? 1 : 0;
                case EQUAL:
                    return a == b ? 1 : 0;
                case PLUS:
                    return a + b;
                case MINUS:
                    return a - b;
                case TIMES:
                    return a * b;
                case SHARE:
                    return b == 0 ? 0 : a / b;
                case REST:
                    return b == 0 ? 0 : a % b;
                default:
                    return 0;
            }
        }
    }

    /** Reads a tape as a crossing, or finds its fault. */
    private static final class Reader {
        final Told draft = new Told();
        int fault = 0;
        int place = NONE;

        private final Tokens tokens = new Tokens();
        private final long[] wordNames = new long[MOST_WORDS];
        private final long[] comerNames = new long[MOST_COMERS];
        private int at = 0;
        private int kind = END;
        private int number = 0;
        private int linesTold = 0;
        private int unitsHere = 0;
        private Formula formula = draft.worth;

        boolean read(Tape tape) {
            draft.clear();
            fault = 0;
            place = NONE;
            linesTold = 0;
            tokens.cut(tape);
            at = 0;
            kind = tokens.kinds[0];
            for (int i = 0; i < TAPE_BYTES && kind != END; i++) {
                if (!readLine()) {
                    return false;
                }
            }
            return true;
        }

        private void goOn() {
            if (at + 1 < tokens.count) {
                at++;
            }
            kind = tokens.kinds[at];
        }

        private boolean refuse(int as) {
            fault = kind == NO_TOKEN ? FAULT_TOKEN : as;
            place = tokens.places[at];
            return false;
        }

        private boolean readLine() {
            int sort = kind;
            if (!mayTell(sort)) {
                return refuse(FAULT_PLACE);
            }
            linesTold |= 1 << sort;
            goOn();
            boolean well;
            switch (sort) {
                case ROADS:
                    well = readNumber(1, MOST_ROADS);
                    draft.roads = number;
                    break;
                case WORD:
                    well = readWord();
                    break;
                case COMER:
                    well = readComer();
                    break;
                case MOOD:
                    well = readNumber(0, TOP);
                    draft.mood = number;
                    break;
                case WORTH:
                    well = readFormula(draft.worth);
                    break;
                case KEEPS:
                    well = readFormula(draft.keeps);
                    break;
                case WHIM:
                    well = readNumber(0, 100);
                    draft.whim = number;
                    break;
                default:
                    well = readNumber(0, 999);
                    draft.draw = number;
                    break;
            }
            return well && readKind(SEMICOLON);
        }

        private boolean mayTell(int sort) {
            switch (sort) {
                case ROADS:
                    return linesTold == 0;
                case WORD:
                    return draft.words < MOST_WORDS;
                case COMER:
                    return draft.comers < MOST_COMERS;
                case MOOD:
                case WORTH:
                case KEEPS:
                case WHIM:
                case DRAW:
                    return (linesTold >> sort & 1) == 0;
                default:
                    return false;
            }
        }

        private boolean readKind(int wanted) {
            if (kind != wanted) {
                return refuse(FAULT_PLACE);
            }
            goOn();
            return true;
        }

        private boolean readNumber(int least, int most) {
            if (kind != NUMBER) {
                return refuse(FAULT_PLACE);
            }
            number = (int) tokens.values[at];
            if (number < least || number > most) {
                return refuse(FAULT_NUMBER);
            }
            goOn();
            return true;
        }

        /** Reads a name that is not among the first of some; it is the next of them then. */
        private boolean readNewName(long[] names, int count) {
            if (kind != NAME || count >= names.length) {
                return refuse(FAULT_PLACE);
            }
            long name = tokens.values[at];
            if (indexOf(name, names, count) != NONE) {
                return refuse(FAULT_TOLD);
            }
            names[count] = name;
            goOn();
            return true;
        }

        private static int indexOf(long name, long[] names, int count) {
            for (int i = 0; i < count && i < names.length; i++) {
                if (names[i] == name) {
                    return i;
                }
            }
            return NONE;
        }

        private boolean readWord() {
            int word = draft.words;
            if (!readNewName(wordNames, word) || !readKind(MOVES) || !readNumber(0, TOP)) {
                return false;
            }
            draft.moves[word] = number;
            draft.tires[word] = 0;
            if (kind == TIRES) {
                goOn();
                if (!readNumber(0, TOP)) {
                    return false;
                }
                draft.tires[word] = number;
            }
            draft.words++;
            return true;
        }

        private boolean readComer() {
            int comer = draft.comers;
            if (!readNewName(comerNames, comer) || !readKind(ROAD) || !readNumber(0, draft.roads - 1)) {
                return false;
            }
            draft.road[comer] = number;
            draft.reason[comer] = 0;
            if (!readKind(SAYS) || !readSaid(comer)) {
                return false;
            }
            for (int i = 0; i < TAPE_BYTES && kind == NAME; i++) {
                if (!readSaid(comer)) {
                    return false;
                }
            }
            draft.comers++;
            return true;
        }

        private boolean readSaid(int comer) {
            int said = draft.reason[comer];
            if (kind != NAME || Integer.bitCount(said) >= MOST_SAID) {
                return refuse(FAULT_PLACE);
            }
            int word = indexOf(tokens.values[at], wordNames, draft.words);
            if (word == NONE) {
                return refuse(FAULT_UNKNOWN);
            }
            if ((said >> word & 1) == 1) {
                return refuse(FAULT_TOLD);
            }
            draft.reason[comer] = said | 1 << word;
            goOn();
            return true;
        }

        private boolean readFormula(Formula into) {
            formula = into;
            formula.clear();
            unitsHere = 0;
            return readLevel(OR_LEVEL, 0);
        }

        /** Reads what stands at a level of the grammar, within so many brackets and nots. */
        private boolean readLevel(int level, int around) {
            if (level >= UNIT_LEVEL) {
                return readUnit(around);
            }
            if (level == RELATION_LEVEL && kind == NOT) {
                return readNot(around);
            }
            if (!readLevel(level + 1, around)) {
                return false;
            }
            int most = level == RELATION_LEVEL ? 1 : TAPE_BYTES;
            for (int i = 0; i < most && Formula.levelOf(kind) == level; i++) {
                int sign = kind;
                goOn();
                if (!readLevel(level + 1, around)) {
                    return false;
                }
                formula.add(sign, 0);
            }
            return true;
        }

        private boolean readNot(int around) {
            if (around > MOST_AROUND) {
                return refuse(FAULT_PLACE);
            }
            goOn();
            if (!readLevel(RELATION_LEVEL, around + 1)) {
                return false;
            }
            formula.add(NOT, 0);
            return true;
        }

        private boolean readUnit(int around) {
            if (!isUnitStart(kind) || unitsHere >= MOST_UNITS_HERE || draft.units >= MOST_UNITS) {
                return refuse(FAULT_PLACE);
            }
            unitsHere++;
            draft.units++;
            if (kind != OPENING) {
                formula.add(kind, kind == NUMBER ? (int) tokens.values[at] : 0);
                goOn();
                return true;
            }
            if (around > MOST_AROUND) {
                return refuse(FAULT_PLACE);
            }
            goOn();
            if (!readLevel(OR_LEVEL, around + 1)) {
                return false;
            }
            if (kind != CLOSING) {
                return refuse(FAULT_PLACE);
            }
            goOn();
            return true;
        }

        private static boolean isUnitStart(int kind) {
            switch (kind) {
                case NUMBER:
                case MOVED:
                case MANY:
                case WAITED:
                case BEHIND:
                case MOOD:
                case HATCH:
                case OPENING:
                    return true;
                default:
                    return false;
            }
        }
    }

    /** How all stands at a crossing at one time. */
    private static final class Scene {
        /** The road of each comer, NONE if he is by. */
        final int[] road = new int[MOST_COMERS];
        /** His place in its row, NONE if he is by. */
        final int[] place = new int[MOST_COMERS];
        final int[] reason = new int[MOST_COMERS];
        final int[] waited = new int[MOST_COMERS];
        final int[] moves = new int[MOST_WORDS];
        final int[] size = new int[MOST_ROADS];
        int mood = 0;
        int minutes = 0;
        int hatches = 0;
        int hand = 0;
        int seed = 0;

        private final Told told;
        private final Facts facts = new Facts();

        Scene(Told told) {
            this.told = told;
        }

        void begin() {
            Arrays.fill(size, 0);
            Arrays.fill(waited, 0);
            for (int comer = 0; comer < told.comers; comer++) {
                join(comer, told.road[comer]);
            }
            System.arraycopy(told.reason, 0, reason, 0, MOST_COMERS);
            System.arraycopy(told.moves, 0, moves, 0, MOST_WORDS);
            mood = told.mood;
            minutes = 0;
            hatches = 0;
            hand = 0;
            seed = told.draw;
        }

        void copy(Scene from) {
            System.arraycopy(from.road, 0, road, 0, MOST_COMERS);
            System.arraycopy(from.place, 0, place, 0, MOST_COMERS);
            System.arraycopy(from.reason, 0, reason, 0, MOST_COMERS);
            System.arraycopy(from.waited, 0, waited, 0, MOST_COMERS);
            System.arraycopy(from.moves, 0, moves, 0, MOST_WORDS);
            System.arraycopy(from.size, 0, size, 0, MOST_ROADS);
            mood = from.mood;
            minutes = from.minutes;
            hatches = from.hatches;
            hand = from.hand;
            seed = from.seed;
        }

        int whoIsBy() {
            int who = 0;
            for (int comer = 0; comer < told.comers; comer++) {
                if (road[comer] < 0) {
                    who |= 1 << comer;
                }
            }
            return who;
        }

        int waiting() {
            return size[0] + size[1] + size[2] + size[3];
        }

        int sayers(int word) {
            int who = 0;
            for (int comer = 0; comer < told.comers; comer++) {
                if (road[comer] >= 0 && (reason[comer] >> word & 1) == 1) {
                    who |= 1 << comer;
                }
            }
            return who;
        }

        int worthOf(int comer) {
            return told.worth.valueBy(factsOf(comer, reason[comer]));
        }

        int worthSaying(int comer, int words) {
            return told.worth.valueBy(factsOf(comer, words));
        }

        int worthInMood(int comer, int otherMood) {
            Facts other = factsOf(comer, reason[comer]);
            other.mood = otherMood;
            return told.worth.valueBy(other);
        }

        int keepsOf(int comer) {
            return withinKept(told.keeps.valueBy(factsOf(comer, reason[comer])));
        }

        private static int withinKept(int minutesKept) {
            return Math.max(0, Math.min(MOST_KEPT, minutesKept));
        }

        private Facts factsOf(int comer, int words) {
            int moved = 0;
            for (int word = 0; word < told.words; word++) {
                if ((words >> word & 1) == 1) {
                    moved += moves[word];
                }
            }
            int on = road[comer];
            facts.moved = moved;
            facts.many = Integer.bitCount(words);
            facts.waited = waited[comer];
            facts.behind = on >= 0 ? size[on] - 1 - place[comer] : 0;
            facts.mood = mood;
            facts.hatch = hatches;
            return facts;
        }

        /** The seed goes on; is it a whim. */
        boolean drawWhim() {
            seed = (seed * 137 + 71) % 1000;
            return seed % 100 < told.whim;
        }

        /** A hatch opens to a road; answers who is heard, NONE if nobody is. */
        int openTo(int to, boolean whim) {
            int heard = firstOf(to);
            if (heard != NONE) {
                listen(heard, whim);
            }
            for (int comer = 0; comer < told.comers; comer++) {
                if (road[comer] >= 0 && waited[comer] < MOST_WAITED) {
                    waited[comer]++;
                }
            }
            hatches++;
            hand = to + 1 < told.roads ? to + 1 : 0;
            return heard;
        }

        private int firstOf(int to) {
            for (int comer = 0; comer < told.comers; comer++) {
                if (road[comer] == to && place[comer] == 0) {
                    return comer;
                }
            }
            return NONE;
        }

        private void listen(int heard, boolean whim) {
            Facts ahead = factsOf(heard, reason[heard]);
            boolean isLetBy = told.worth.valueBy(ahead) > 0 && !whim;
            minutes += withinKept(told.keeps.valueBy(ahead));
            for (int word = 0; word < told.words; word++) {
                if ((reason[heard] >> word & 1) == 1) {
                    moves[word] = Math.max(0, moves[word] - told.tires[word]);
                }
            }
            int on = road[heard];
            leave(heard);
            if (isLetBy) {
                mood = Math.min(TOP, mood + 1);
            } else {
                mood = Math.max(0, mood - 1);
                join(heard, on);
            }
        }

        void takeRoad(int comer, int to) {
            leave(comer);
            join(comer, to);
        }

        private void leave(int comer) {
            int on = road[comer];
            if (on < 0) {
                return;
            }
            for (int other = 0; other < told.comers; other++) {
                if (road[other] == on && place[other] > place[comer]) {
                    place[other]--;
                }
            }
            size[on]--;
            road[comer] = NONE;
            place[comer] = NONE;
        }

        private void join(int comer, int to) {
            if (to >= 0 && to < MOST_ROADS) {
                road[comer] = to;
                place[comer] = size[to];
                size[to]++;
            }
        }

        void exchange(int comer, int other) {
            int was = place[comer];
            place[comer] = place[other];
            place[other] = was;
        }
    }

    /** How all stood behind each act that is kept, round about from the oldest on. */
    private static final class Acts {
        /** How many acts can be undone. */
        int done = 0;
        /** How many can be undone or redone. */
        int kept = 0;

        private final Scene[] scenes = new Scene[MOST_ACTS + 1];
        private int oldest = 0;

        Acts(Told told) {
            for (int i = 0; i < scenes.length; i++) {
                scenes[i] = new Scene(told);
            }
        }

        void forget(Scene now) {
            oldest = 0;
            done = 0;
            kept = 0;
            scenes[0].copy(now);
        }

        void add(Scene now) {
            if (done < MOST_ACTS) {
                done++;
            } else {
                oldest = (oldest + 1) % (MOST_ACTS + 1);
            }
            kept = done;
            current().copy(now);
        }

        boolean takeBack(Scene now) {
            if (done == 0) {
                return false;
            }
            done--;
            now.copy(current());
            return true;
        }

        boolean doAgain(Scene now) {
            if (done == kept) {
                return false;
            }
            done++;
            now.copy(current());
            return true;
        }

        private Scene current() {
            return scenes[(oldest + done) % (MOST_ACTS + 1)];
        }
    }

    /** What was seen of the crossing as told, and which moves of the last word at first it fits. */
    private static final class Sightings {
        private static final int MOVES_COUNT = TOP + 1;
        private static final int TIMES_SEEN = SEEN_HATCHES + 1;

        int count = 0;
        /** Those moves, least first, that findFitting found last. */
        final int[] fitting = new int[MOVES_COUNT];

        private final Told told;
        private final Scene scene;
        private final int[] hatches = new int[MOST_SEEN];
        private final int[] comers = new int[MOST_SEEN];
        private final boolean[] was = new boolean[MOST_SEEN];
        private final int[] toldAt = new int[MOST_SEEN];
        private final int[] untoldAt = new int[MOST_SEEN];
        private final boolean[] untold = new boolean[MOST_SEEN];
        /** Who is by, by the moves and behind how many hatches; made when it is first asked for. */
        private final int[] by = new int[MOVES_COUNT * TIMES_SEEN];
        private boolean made = false;
        private final int[] alike = new int[1 << MOST_COMERS];

        Sightings(Told told) {
            this.told = told;
            this.scene = new Scene(told);
        }

        void forget() {
            count = 0;
            made = false;
        }

        int add(int behind, int comer, boolean is, int time) {
            if (count >= MOST_SEEN) {
                return NONE;
            }
            hatches[count] = behind;
            comers[count] = comer;
            was[count] = is;
            toldAt[count] = time;
            untold[count] = false;
            count++;
            return count - 1;
        }

        boolean takeBack(int seen, int time) {
            if (seen < 0 || seen >= count || untold[seen]) {
                return false;
            }
            untold[seen] = true;
            untoldAt[seen] = time;
            return true;
        }

        /** Finds those that fit as known at k; answers how many. */
        int findFitting(int k) {
            if (told.words == 0) {
                return 0;
            }
            makeBy();
            int many = 0;
            for (int moves = 0; moves < MOVES_COUNT; moves++) {
                if (isFitting(moves, k)) {
                    fitting[many] = moves;
                    many++;
                }
            }
            return many;
        }

        private boolean isFitting(int moves, int k) {
            for (int i = 0; i < count; i++) {
                boolean counts = toldAt[i] <= k && !(untold[i] && untoldAt[i] <= k);
                boolean isBy = (by[moves * TIMES_SEEN + hatches[i]] >> comers[i] & 1) == 1;
                if (counts && isBy != was[i]) {
                    return false;
                }
            }
            return true;
        }

        private void makeBy() {
            if (made) {
                return;
            }
            for (int moves = 0; moves < MOVES_COUNT; moves++) {
                scene.begin();
                scene.moves[told.words - 1] = moves;
                for (int behind = 0; behind < TIMES_SEEN; behind++) {
                    by[moves * TIMES_SEEN + behind] = scene.whoIsBy();
                    scene.openTo(scene.hand, false);
                }
            }
            made = true;
        }

        /** How many at the most of the first fitting ones have the same comers by behind some hatches. */
        int mostAlike(int behind, int many) {
            Arrays.fill(alike, 0);
            int most = 0;
            for (int i = 0; i < many; i++) {
                int who = by[fitting[i] * TIMES_SEEN + behind];
                alike[who]++;
                most = Math.max(most, alike[who]);
            }
            return most;
        }
    }
}
