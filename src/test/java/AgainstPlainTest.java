import static java.util.Map.entry;

import java.lang.reflect.Method;
import java.util.ArrayList;
import java.util.Comparator;
import java.util.List;
import java.util.Map;
import java.util.Random;

/** Runs of chance calls, whose every answer is held against the document read a second time (PlainLights). */
public final class AgainstPlainTest {
    private static final int RUNS = 2500;
    private static final int CALLS = 200;

    private final Random random;
    private final HatchLights lights = new HatchLights();
    private final PlainLights plain = new PlainLights();
    private final StringBuilder log = new StringBuilder();

    private AgainstPlainTest(long seed) {
        random = new Random(seed);
    }

    private static List<Method> methods() {
        List<Method> all = new ArrayList<>();
        for (Method m : HatchLights.class.getDeclaredMethods()) {
            if (java.lang.reflect.Modifier.isPublic(m.getModifiers())) {
                all.add(m);
            }
        }
        all.sort(Comparator.comparing(Method::getName));
        return all;
    }

    private boolean same(Method method, Object... args) throws Exception {
        Object got = method.invoke(lights, args);
        Object due = PlainLights.class.getMethod(method.getName(), method.getParameterTypes()).invoke(plain, args);
        log.append(method.getName()).append(java.util.Arrays.toString(args)).append(" -> ").append(got).append('\n');
        if (!got.equals(due)) {
            log.append("   due is ").append(due).append('\n');
            return false;
        }
        return true;
    }

    private boolean feedText(String text) {
        boolean fine = true;
        for (int[] n : Due.numbersOf(text)) {
            fine &= lights.feed(n[0], n[1], n[2], n[3], n[4]) == plain.feed(n[0], n[1], n[2], n[3], n[4]);
        }
        fine &= lights.end(text.length()) == plain.end(text.length());
        log.append("text ").append(text).append('\n');
        return fine;
    }

    private boolean tell() {
        Texts texts = new Texts(random);
        String text = switch (random.nextInt(16)) {
            case 0 -> texts.wild();
            case 1 -> texts.spoilt();
            case 2 -> texts.exchanged();
            case 3 -> texts.large();
            default -> texts.well();
        };
        lights.end(0);
        plain.end(0);
        boolean fine = feedText(text);
        int got = lights.crossing();
        int due = plain.crossing();
        log.append("crossing -> ").append(got).append(", due ").append(due).append('\n');
        return fine && got == due && lights.fault(0) == plain.fault(0) && lights.fault(1) == plain.fault(1);
    }

    /** What the numbers of each call are: c comer, w word, r road, n hatches ahead, m mood, and so on. */
    private static final Map<String, String> SORTS = Map.ofEntries(entry("word", "w3"), entry("comer", "c5"),
        entry("worth", "c"), entry("keeps", "c"), entry("row", "r"), entry("open", "r"), entry("rehearse", "cs"),
        entry("turn", "cr"), entry("revive", "w"), entry("humour", "m"), entry("will", "n2"), entry("when", "c"),
        entry("clock", "n"), entry("shortest", "c2"), entry("honest", "c2"), entry("best", "c2"), entry("lull", "w"),
        entry("rivals", "cc"), entry("press", "n"), entry("spark", "c2"), entry("spends", "c"), entry("echoes", "wn"),
        entry("coax", "c"), entry("drop", "c2"), entry("clears", "rn"), entry("reorder", "n3"), entry("law", "m"),
        entry("temper", "n"), entry("odds", "52"), entry("lies", "l"), entry("seen", "hcb"), entry("untell", "u"),
        entry("later", "t"), entry("fits", "k"), entry("sure", "2k"), entry("ask", "2k"), entry("image", "3"),
        entry("back", "3"), entry("about", "a"), entry("fault", "2"), entry("end", "e"), entry("feed", "fffff"),
        entry("hatch", ""), entry("undo", ""), entry("redo", ""), entry("soonest", ""), entry("jam", ""),
        entry("ready", ""), entry("oldest", ""), entry("fashion", ""), entry("crossing", ""));

    private Object argument(Method method, int index) {
        char sort = SORTS.get(method.getName()).charAt(index);
        if (sort == 'b') {
            return random.nextBoolean();
        }
        if (random.nextInt(100) == 0) {
            return random.nextBoolean() ? Integer.MIN_VALUE : Integer.MAX_VALUE;
        }
        boolean wrong = random.nextInt(25) == 0;
        switch (sort) {
            case 'c':
                return below(plain.about(0), wrong);
            case 'w':
                return below(plain.about(1), wrong);
            case 'r':
                return below(plain.about(2), wrong);
            case 's':
                return wrong ? random.nextInt(260) - 2 : 1 + random.nextInt((1 << plain.about(1)));
            case 'm':
                return below(100, wrong);
            case 'n':
                return random.nextInt(3) == 0 ? below(61, wrong) : below(12, wrong);
            case 'l':
                return below(plain.about(15), wrong);
            case 'h':
                return below(21, wrong);
            case 'u':
                return below(plain.about(11), wrong);
            case 't':
                return random.nextInt(20) == 0 ? 995 + random.nextInt(10) : below(4, wrong);
            case 'k':
                return below(plain.about(12) + 2, wrong);
            case 'a':
                return below(16, wrong);
            case 'e':
                return below(plain.about(13) + 1, wrong);
            case 'f':
                return random.nextInt();
            default:
                return below(sort - '0', wrong);
        }
    }

    private int below(int n, boolean wrong) {
        if (wrong || n <= 0) {
            return random.nextBoolean() ? -1 : Math.max(0, n);
        }
        return random.nextInt(n);
    }

    private boolean isDear(String name) {
        return name.equals("soonest") || name.equals("ask") || name.equals("fits") || name.equals("sure")
                || name.equals("rivals") || name.equals("reorder");
    }

    private boolean run(List<Method> methods) throws Exception {
        boolean fine = true;
        if (random.nextInt(30) > 0) {
            for (int i = 0; i < 8 && fine && plain.about(0) < 1 + random.nextInt(4); i++) {
                fine = tell();
            }
        }
        for (int i = 0; i < CALLS && fine; i++) {
            if (random.nextInt(150) == 0) {
                fine = tell();
                continue;
            }
            Method method = methods.get(random.nextInt(methods.size()));
            if (random.nextInt(6) == 0) {
                String act = new String[] {"hatch", "open", "rehearse", "turn", "undo", "redo"}[random.nextInt(6)];
                method = methods.stream().filter(m -> m.getName().equals(act)).findFirst().orElseThrow();
            }
            if (isDear(method.getName()) && random.nextInt(2) > 0 || method.getName().equals("crossing")) {
                continue;
            }
            Object[] args = new Object[method.getParameterCount()];
            for (int j = 0; j < args.length; j++) {
                args[j] = argument(method, j);
            }
            fine = same(method, args);
            for (int what = 0; what < 16 && fine; what++) {
                fine = lights.about(what) == plain.about(what);
                if (!fine) {
                    log.append("   about(").append(what).append(") -> ").append(lights.about(what)).append(", due ")
                        .append(plain.about(what)).append('\n');
                }
            }
        }
        return fine;
    }

    /** Many texts more, of which the faults alone are looked at. */
    private boolean tellMany(int times) {
        boolean fine = true;
        for (int i = 0; i < times && fine; i++) {
            log.setLength(0);
            fine = tell();
        }
        return fine;
    }

    public static void main(String[] args) throws Exception {
        List<Method> methods = methods();
        AgainstPlainTest teller = new AgainstPlainTest(0);
        if (!teller.tellMany(20000)) {
            System.out.println(teller.log);
            System.exit(1);
        }
        int runs = args.length > 1 ? Integer.parseInt(args[1]) : RUNS;
        long first = args.length > 2 ? Long.parseLong(args[2]) : 1;
        for (long seed = first; seed < first + runs; seed++) {
            AgainstPlainTest test = new AgainstPlainTest(seed);
            if (!test.run(methods)) {
                System.out.println("run of seed " + seed + ":\n" + test.log);
                System.exit(1);
            }
        }
    }
}
