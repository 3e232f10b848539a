import java.lang.reflect.Constructor;
import java.lang.reflect.Field;
import java.lang.reflect.Method;
import java.lang.reflect.Modifier;
import java.nio.file.Files;
import java.nio.file.Path;
import java.util.ArrayList;
import java.util.Arrays;
import java.util.HashSet;
import java.util.List;
import java.util.Set;
import java.util.TreeSet;
import java.util.regex.Matcher;
import java.util.regex.Pattern;

/** The rules of LANGUAGE.md that can be looked at: the face, and what must not stand in the file. */
public final class LanguageTest {
    private static final String FACE = "int feed(int,int,int,int,int);int end(int);int crossing();int fault(int);"
            + "int word(int,int);int comer(int,int);int worth(int);int keeps(int);int row(int);int hatch();int open(int);"
            + "int rehearse(int,int);int turn(int,int);int revive(int);int humour(int);boolean undo();boolean redo();"
            + "int will(int,int);int when(int);int clock(int);int shortest(int,int);int honest(int,int);int soonest();"
            + "int best(int,int);int lull(int);int rivals(int,int);int press(int);int spark(int,int);int spends(int);"
            + "int echoes(int,int);int coax(int);int drop(int,int);int clears(int,int);int reorder(int,int);int jam();"
            + "int ready();int oldest();int law(int);int fashion();int temper(int);int odds(int,int);int lies(int);"
            + "int seen(int,int,boolean);boolean untell(int);int later(int);int fits(int);int sure(int,int);"
            + "int ask(int,int);int image(int);int back(int);int about(int)";
    private static int wrong = 0;

    private static void demand(boolean fine, String what) {
        if (!fine) {
            wrong++;
            System.out.println(what);
        }
    }

    private static String signature(Method m) {
        List<String> types = new ArrayList<>();
        for (Class<?> type : m.getParameterTypes()) {
            types.add(type.getName());
        }
        return m.getReturnType().getName() + " " + m.getName() + "(" + String.join(",", types) + ")";
    }

    private static void face() {
        Set<String> due = new TreeSet<>(Arrays.asList(FACE.split(";")));
        Set<String> got = new TreeSet<>();
        Set<String> publicNames = new HashSet<>();
        for (Method m : HatchLights.class.getDeclaredMethods()) {
            boolean open = Modifier.isPublic(m.getModifiers());
            demand(open || Modifier.isPrivate(m.getModifiers()), "neither public nor private: " + m);
            if (open) {
                got.add(signature(m));
                publicNames.add(m.getName());
                demand(!Modifier.isStatic(m.getModifiers()), "static: " + m);
            }
        }
        demand(due.equals(got), "the face is " + got);
        demand(Modifier.isFinal(HatchLights.class.getModifiers()), "the class is not final");
        for (Field f : HatchLights.class.getDeclaredFields()) {
            boolean isNone = f.getName().equals("NONE");
            demand(isNone == Modifier.isPublic(f.getModifiers()), "seen from outside or not: " + f);
            demand(isNone || Modifier.isPrivate(f.getModifiers()), "not private: " + f);
        }
        demand(HatchLights.NONE == -1, "NONE");
        Constructor<?>[] made = HatchLights.class.getDeclaredConstructors();
        demand(made.length == 1 && Modifier.isPublic(made[0].getModifiers()), "constructors");
        for (Method m : HatchLights.class.getDeclaredMethods()) {
            demand(Modifier.isPublic(m.getModifiers()) || !publicNames.contains(m.getName()), "a public one's name: " + m);
        }
        for (Class<?> inside : HatchLights.class.getDeclaredClasses()) {
            for (Method m : inside.getDeclaredMethods()) {
                demand(!publicNames.contains(m.getName()), "a public one's name: " + m);
            }
        }
    }

    private static void classes() {
        List<Class<?>> all = new ArrayList<>(List.of(HatchLights.class.getDeclaredClasses()));
        demand(all.size() <= 12, "classes: " + all.size());
        for (Class<?> inside : all) {
            demand(Modifier.isStatic(inside.getModifiers()), "not static: " + inside);
            demand(!Modifier.isPublic(inside.getModifiers()), "public: " + inside);
            demand(inside.getDeclaredClasses().length == 0, "classes within " + inside);
        }
        all.add(HatchLights.class);
        for (Class<?> one : all) {
            int fields = 0;
            for (Field f : one.getDeclaredFields()) {
                if (Modifier.isStatic(f.getModifiers())) {
                    boolean plain = f.getType().isPrimitive() || f.getType() == String.class;
                    demand(Modifier.isFinal(f.getModifiers()) && plain, "static: " + f);
                } else {
                    fields++;
                }
            }
            demand(fields <= 20, "fields of " + one + ": " + fields);
            for (Method m : one.getDeclaredMethods()) {
                demand(m.getParameterCount() <= 7, "parameters of " + m);
            }
        }
    }

    /** The text without comments and without what stands in quotes. */
    private static String bare(String text) {
        return text.replaceAll("(?s)/\\*.*?\\*/", " ").replaceAll("//[^\n]*", " ").replaceAll("\"[^\"\n]*\"", "\"\"")
            .replaceAll("'[^'\n]*'", "'x'");
    }

    private static void text(String text) {
        String bare = bare(text);
        String[] none = {"\\bthrow\\b", "\\bthrows\\b", "\\btry\\b", "\\bcatch\\b", "\\bsynchronized\\b", "\\bassert\\b", "->", "::",
            "\\bSystem\\.(?!arraycopy)", "\\bThread\\b", "\\bRandom\\b", "\\bdouble\\b", "\\bfloat\\b", "\\bObject\\b",
            "\\w*Exact\\b", "@", "\\bstatic\\s*\\{", "\"\\s*\\+", "\\+\\s*\"", "\\bprotected\\b", "\\bpackage\\b", "\\bvar\\b",
            "\\bhashCode\\b", "\\btoString\\b", "while \\(true\\)", "for \\(;;\\)"};
        for (String pattern : none) {
            Matcher m = Pattern.compile(pattern).matcher(bare);
            demand(!m.find(), "in the file: " + pattern);
        }
        Matcher imports = Pattern.compile("import ([\\w.]+);").matcher(bare);
        while (imports.find()) {
            demand(Set.of("java.util.Arrays", "java.util.ArrayList", "java.util.List").contains(imports.group(1)), imports.group());
        }
        Matcher calls = Pattern.compile("\\b(Arrays|Math|Integer|Long|List)\\.(\\w+)").matcher(bare);
        while (calls.find()) {
            demand(Set.of("fill", "copyOf", "copyOfRange", "min", "max", "abs", "bitCount").contains(calls.group(2)), calls.group());
        }
        for (int i = 0; i < text.length(); i++) {
            char c = text.charAt(i);
            demand(c == '\n' || c >= ' ' && c < 127, "sign " + (int) c + " at " + i);
        }
    }

    private static void lengths(String text) {
        String[] lines = text.split("\n");
        int start = -1;
        String indent = "";
        for (int i = 0; i < lines.length; i++) {
            Matcher m = Pattern.compile("^(    |        )(?!    )\\S.*\\) \\{$").matcher(lines[i]);
            if (start < 0 && m.find() && !lines[i].contains("for (") && !lines[i].contains("if (")) {
                start = i;
                indent = m.group(1);
            } else if (start >= 0 && lines[i].equals(indent + "}")) {
                demand(i - start + 1 <= 60, "lines of the method at " + (start + 1) + ": " + (i - start + 1));
                start = -1;
            }
        }
    }

    public static void main(String[] args) throws Exception {
        Path root = Path.of(args.length > 0 ? args[0] : ".");
        String text = Files.readString(root.resolve("src/main/java/HatchLights.java"));
        face();
        classes();
        text(text);
        lengths(text);
        if (wrong > 0) {
            System.exit(1);
        }
    }
}
