import java.io.IOException;
import java.nio.file.Files;
import java.nio.file.Path;
import java.util.HashMap;
import java.util.HashSet;
import java.util.Map;
import java.util.Set;
import java.util.function.IntSupplier;
import java.util.regex.Pattern;

/**
 * Holds the document sentence by sentence: each test says which promise (or which part of "Terms") and which sentence
 * it holds, and the sentence must stand there, letter for letter.
 */
final class Sentences {
    static final int LOW = Integer.MIN_VALUE;
    static final int HIGH = Integer.MAX_VALUE;

    private static final Pattern BOUNDARY =
            Pattern.compile("NONE|-2|-1000000000|true|false|at most|at least|at first|\\.\\.|if not|doing nothing|like ones");

    private final Map<String, String> parts = new HashMap<>();
    /** Of each part what no test holds yet. */
    private final Map<String, StringBuilder> rests = new HashMap<>();
    private final Set<String> held = new HashSet<>();
    private final Set<String> heldParts = new HashSet<>();
    private String where = "";
    private int answers = 0;
    private int wrong = 0;

    /** The first argument of a test is the project's root, beside which the document is. */
    Sentences(String[] args) throws IOException {
        Path document = Path.of(args.length > 0 ? args[0] : ".", "..", "shared", "DOC.md");
        if (Files.isReadable(document)) {
            cut(Files.readString(document));
        } else {
            System.out.println("there is no " + document + ": the sentences are not looked up");
        }
    }

    private void cut(String document) {
        String text = fold(document);
        String[] promises = text.split("## Promise (?=\\d+: )");
        for (int i = 1; i < promises.length; i++) {
            String[] numbered = promises[i].split(": ", 2);
            parts.put("Promise " + numbered[0], numbered[1].split("## Not promised")[0]);
        }
        String[] terms = promises[0].split("## Terms")[1].split("==== \\d\\. |(?=The constants: )");
        for (int i = 0; i < terms.length; i++) {
            parts.put(i < 4 ? "Terms " + (i + 1) : "The constants", terms[i]);
        }
        parts.put("Head", promises[0].split("## The public face")[0]);
        parts.forEach((part, words) -> rests.put(part, new StringBuilder(words)));
    }

    private static String fold(String text) {
        return text.replaceAll("\\s+", " ");
    }

    /** A test of one sentence. */
    void hold(String part, String sentence, Runnable test) {
        where = part + ", \"" + sentence + "\"";
        if (!held.add(where)) {
            fail("is held twice");
        }
        heldParts.add(part);
        if (!parts.isEmpty()) {
            lookUp(part, fold(sentence));
        }
        int before = answers;
        test.run();
        if (answers == before) {
            fail("is not tested");
        }
    }

    private void lookUp(String part, String sentence) {
        int at = parts.getOrDefault(part, "").indexOf(sentence);
        if (at < 0) {
            fail("does not stand in the document");
            return;
        }
        for (int i = at; i < at + sentence.length(); i++) {
            rests.get(part).setCharAt(i, '_');
        }
    }

    private void fail(String what) {
        wrong++;
        System.out.println(where + ": " + what);
    }

    void is(String call, long got, long due) {
        answers++;
        if (got != due) {
            fail(call + " answered " + got + ", due is " + due);
        }
    }

    void is(String call, boolean got, boolean due) {
        is(call, got ? 1 : 0, due ? 1 : 0);
    }

    /** A new object whose crossing is as told. */
    HatchLights told(String text) {
        HatchLights x = new HatchLights();
        Due.feed(x, text);
        x.crossing();
        is("fault(0) of \"" + text + "\"", x.fault(0), 0);
        return x;
    }

    /** That a text has a fault, of which sort, and where. */
    void fault(String text, int sort, int place) {
        HatchLights x = new HatchLights();
        Due.feed(x, text);
        is("crossing() of \"" + text + "\"", x.crossing(), -1);
        is("fault(0) of \"" + text + "\"", x.fault(0), sort);
        is("fault(1) of \"" + text + "\"", x.fault(1), place);
    }

    /** What can be seen of an object at one time. */
    static int[] look(HatchLights x) {
        int words = x.about(1);
        int comers = x.about(0);
        int[] seen = new int[16 + words + 4 * comers + 8];
        for (int what = 0; what < 16; what++) {
            seen[what] = x.about(what);
        }
        for (int word = 0; word < words; word++) {
            seen[16 + word] = x.word(word, 0);
        }
        for (int i = 0; i < 4 * comers; i++) {
            seen[16 + words + i] = x.comer(i / 4, i % 4);
        }
        for (int i = 0; i < 8; i++) {
            seen[16 + words + 4 * comers + i] = x.lies(i);
        }
        return seen;
    }

    /** That two looks are alike. */
    void alike(String when, int[] got, int[] due) {
        is(when + ": so much to look at", got.length, due.length);
        for (int i = 0; i < got.length && i < due.length; i++) {
            is(when + ": look " + i, got[i], due[i]);
        }
    }

    /** That a call answers so, and does nothing. */
    void idle(String call, HatchLights x, IntSupplier doing, int due) {
        int[] before = look(x);
        is(call, doing.getAsInt(), due);
        alike("behind " + call, look(x), before);
    }

    /** That a call answers so, and was one ACT more: undone, all is as before. */
    void act(String call, HatchLights x, IntSupplier doing, int due) {
        int[] before = look(x);
        is(call, doing.getAsInt(), due);
        is("about(9) behind " + call, x.about(9), before[9] + 1);
        is("undo() of " + call, x.undo(), true);
        int[] behind = look(x);
        is("about(10) behind undo() of " + call, behind[10], 1);
        behind[10] = before[10];
        alike("behind undo() of " + call, behind, before);
        is("redo() of " + call, x.redo(), true);
    }

    /** Every part that this test is for must have been held, and what it leaves must name no boundary. */
    void end(String... due) {
        for (String part : due) {
            where = part;
            if (!heldParts.contains(part)) {
                fail("nothing holds it");
            }
            String rest = rests.getOrDefault(part, new StringBuilder()).toString().replaceAll("_+", "_");
            if (BOUNDARY.matcher(rest).find()) {
                fail("names a boundary that nothing holds: " + rest);
            }
        }
        System.out.println(held.size() + " sentences, " + answers + " answers, " + wrong + " not as due");
        if (wrong > 0) {
            System.exit(1);
        }
    }

    /** The names of promises from one number to another. */
    static String[] promises(int from, int to, String... more) {
        String[] names = new String[to - from + 1 + more.length];
        for (int i = from; i <= to; i++) {
            names[i - from] = "Promise " + i;
        }
        System.arraycopy(more, 0, names, to - from + 1, more.length);
        return names;
    }
}
