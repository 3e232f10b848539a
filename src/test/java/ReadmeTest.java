import java.io.IOException;
import java.lang.reflect.Method;
import java.lang.reflect.Modifier;
import java.nio.file.Files;
import java.nio.file.Path;
import java.util.List;
import java.util.regex.Matcher;
import java.util.regex.Pattern;
import java.util.stream.Stream;

/** README.md tells how to use the class: its example answers what it says, and it leaves no call and no test out. */
public final class ReadmeTest {
    private static final Pattern CALL = Pattern.compile("^lights\\.(\\w+)\\(([^)]*)\\); +// (-?\\d+|true|false)(?= |$)", Pattern.MULTILINE);
    private static final int LEAST_CALLS = 10;
    private static int wrong = 0;

    private static void demand(boolean fine, String what) {
        if (!fine) {
            wrong++;
            System.out.println("README.md: " + what);
        }
    }

    /** What stands between two pieces of the page; nothing if they do not stand there. */
    private static String between(String page, String from, String to) {
        int start = page.indexOf(from);
        int end = start < 0 ? -1 : page.indexOf(to, start + from.length());
        return end < 0 ? "" : page.substring(start + from.length(), end);
    }

    /** How the page itself says that a text is told. */
    private static int tell(HatchLights lights, String text) {
        lights.end(0);
        for (int at = 0; at < text.length(); at += 20) {
            int[] numbers = new int[5];
            for (int i = 0; i < 20; i++) {
                int sign = at + i < text.length() ? text.charAt(at + i) : ' ';
                numbers[i / 4] = numbers[i / 4] << 8 | sign;
            }
            lights.feed(numbers[0], numbers[1], numbers[2], numbers[3], numbers[4]);
        }
        lights.end(text.length());
        return lights.crossing();
    }

    private static void tellsAsHere(String page, String own) {
        String shown = between(page, "static int tell(", "```").replaceAll("\\s+", " ").strip();
        demand(!shown.isEmpty() && own.replaceAll("\\s+", " ").contains(shown), "tell() is not the one that is tried here");
    }

    private static String textOf(String example) {
        StringBuilder text = new StringBuilder();
        Matcher pieces = Pattern.compile("\"([^\"]*)\"").matcher(between(example, "tell(lights, ", ");\n"));
        while (pieces.find()) {
            text.append(pieces.group(1));
        }
        return text.toString();
    }

    private static Method method(String name) {
        for (Method m : HatchLights.class.getDeclaredMethods()) {
            if (m.getName().equals(name) && Modifier.isPublic(m.getModifiers())) {
                return m;
            }
        }
        return null;
    }

    private static Object[] arguments(String list) {
        String[] pieces = list.isBlank() ? new String[0] : list.split(", ");
        Object[] args = new Object[pieces.length];
        for (int i = 0; i < pieces.length; i++) {
            boolean truth = pieces[i].equals("true") || pieces[i].equals("false");
            args[i] = truth ? (Object) Boolean.valueOf(pieces[i]) : (Object) Integer.valueOf(pieces[i]);
        }
        return args;
    }

    private static void example(String page) throws ReflectiveOperationException {
        String example = between(page, "HatchLights lights = new HatchLights();\n", "```");
        HatchLights lights = new HatchLights();
        demand(tell(lights, textOf(example)) > 0, "the example's text has fault " + lights.fault(0) + " at " + lights.fault(1));
        Matcher calls = CALL.matcher(example);
        int many = 0;
        while (calls.find()) {
            Method method = method(calls.group(1));
            Object got = method == null ? "no call" : method.invoke(lights, arguments(calls.group(2)));
            demand(got.toString().equals(calls.group(3)), calls.group() + ": the answer is " + got);
            many++;
        }
        long lines = example.lines().filter(line -> line.startsWith("lights.")).count();
        demand(many == lines && many >= LEAST_CALLS, "of " + lines + " calls of the example " + many + " can be tried");
    }

    private static void nothingLeftOut(String page, Path tests) throws IOException {
        String table = between(page, "### The calls", "## How it is made");
        for (Method m : HatchLights.class.getDeclaredMethods()) {
            demand(!Modifier.isPublic(m.getModifiers()) || table.contains("`" + m.getName() + "`"), "leaves out " + m.getName());
        }
        String told = page.substring(page.indexOf("## Tests"));
        List<Path> files;
        try (Stream<Path> all = Files.list(tests)) {
            files = all.toList();
        }
        demand(!files.isEmpty(), "there are no tests in " + tests);
        for (Path file : files) {
            String name = file.getFileName().toString().replace(".java", "");
            demand(told.contains("`" + name + "`"), "leaves out " + name);
        }
    }

    public static void main(String[] args) throws Exception {
        Path root = Path.of(args.length > 0 ? args[0] : ".");
        Path tests = root.resolve("src/test/java");
        String page = Files.readString(root.resolve("README.md"));
        tellsAsHere(page, Files.readString(tests.resolve("ReadmeTest.java")));
        example(page);
        nothingLeftOut(page, tests);
        if (wrong > 0) {
            System.exit(1);
        }
    }
}
