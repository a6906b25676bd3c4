import java.io.IOException;
import java.lang.reflect.Array;
import java.lang.reflect.Constructor;
import java.lang.reflect.Field;
import java.lang.reflect.Method;
import java.lang.reflect.Modifier;
import java.nio.file.Files;
import java.nio.file.Path;
import java.util.ArrayList;
import java.util.Arrays;
import java.util.IdentityHashMap;
import java.util.List;
import java.util.Map;
import java.util.Set;
import java.util.TreeSet;
import java.util.regex.Matcher;
import java.util.regex.Pattern;

/** The document's face, whole and alone, and what of LANGUAGE.md can be seen from outside or read off the lines. */
public final class LanguageTest {
    private static final Path SOURCE = Path.of("src/main/java/CardCups.java");
    private static final Path DOC = Path.of("../shared/DOC.md");

    public static void main(String[] args) throws IOException, IllegalAccessException {
        String source = Files.readString(SOURCE);
        face();
        members();
        classes();
        signs(source);
        words(source);
        lengths(source);
        room();
        Check.end();
    }

    private static void face() throws IOException {
        Check.part("the public face");
        String doc = Files.readString(DOC);
        String block = doc.substring(doc.indexOf("```java"), doc.indexOf("```", doc.indexOf("```java") + 7));
        Set<String> due = new TreeSet<>();
        Matcher m = Pattern.compile("public (int|long) (\\w+)\\(([^)]*)\\)(?: throws ([^;]*))?;").matcher(block);
        while (m.find()) {
            StringBuilder types = new StringBuilder();
            for (String p : m.group(3).split(",")) {
                if (!p.isBlank()) types.append(p.trim().split(" ")[0]).append(' ');
            }
            Set<String> thrown = new TreeSet<>();
            if (m.group(4) != null) for (String t : m.group(4).split(",")) thrown.add(t.trim());
            due.add(m.group(1) + " " + m.group(2) + "(" + types + ")" + thrown);
        }
        Set<String> got = new TreeSet<>();
        for (Method one : CardCups.class.getDeclaredMethods()) {
            if (Modifier.isPrivate(one.getModifiers())) continue;
            StringBuilder types = new StringBuilder();
            for (Class<?> p : one.getParameterTypes()) types.append(p.getName()).append(' ');
            Set<String> thrown = new TreeSet<>();
            for (Class<?> t : one.getExceptionTypes()) thrown.add(t.getSimpleName());
            got.add(one.getReturnType() + " " + one.getName() + "(" + types + ")" + thrown);
        }
        Check.due("methods of the document", due.size(), 46);
        if (!got.equals(due)) Check.wrong("is " + got, "the face");
    }

    private static void members() {
        Check.part("rules 1, 5, 11");
        Check.due("public final", CardCups.class.getModifiers(), Modifier.PUBLIC | Modifier.FINAL);
        Constructor<?>[] made = CardCups.class.getDeclaredConstructors();
        Check.due("constructors", made.length, 1);
        Check.due("it is public, without arguments", made[0].getModifiers() + 100 * made[0].getParameterCount(), Modifier.PUBLIC);
        for (Field f : CardCups.class.getDeclaredFields()) {
            if (!Modifier.isPrivate(f.getModifiers()) && !f.getName().equals("NONE")) Check.wrong("is not private", f.getName());
        }
        Set<String> open = new TreeSet<>();
        for (Method m : CardCups.class.getDeclaredMethods()) if (Modifier.isPublic(m.getModifiers())) open.add(m.getName());
        for (Class<?> c : all()) {
            int fields = 0;
            for (Field f : c.getDeclaredFields()) {
                boolean fixed = Modifier.isStatic(f.getModifiers());
                if (fixed && !Modifier.isFinal(f.getModifiers())) Check.wrong("is static and not final", f.getName());
                if (!fixed) fields++;
            }
            if (fields > 20) Check.wrong("has " + fields + " fields", c.getName());
            for (Method m : c.getDeclaredMethods()) {
                boolean own = c == CardCups.class && Modifier.isPublic(m.getModifiers());
                if (!own && open.contains(m.getName())) Check.wrong("bears a name of the face", c.getName() + "." + m.getName());
                if (m.getParameterCount() > 7) Check.wrong("takes too much", m.getName());
            }
        }
    }

    private static List<Class<?>> all() {
        List<Class<?>> all = new ArrayList<>(Arrays.asList(CardCups.class.getDeclaredClasses()));
        all.add(0, CardCups.class);
        return all;
    }

    private static void classes() {
        Check.part("rules 2, 11");
        if (all().size() > 12) Check.wrong("are " + all().size(), "classes");
        for (Class<?> c : CardCups.class.getDeclaredClasses()) {
            int m = c.getModifiers();
            if (!Modifier.isStatic(m) || Modifier.isPublic(m) || Modifier.isProtected(m)) Check.wrong("is open", c.getName());
            if (c.getDeclaredClasses().length > 0) Check.wrong("has classes of its own", c.getName());
        }
    }

    private static void signs(String source) {
        Check.part("signs");
        for (int i = 0; i < source.length(); i++) {
            if (source.charAt(i) > 126) Check.wrong("is none of ASCII", "the sign at " + i);
        }
        for (String never : new String[] {"->", "::", "\" +", "+ \"", "@", "yield", "%s"}) {
            if (source.contains(never)) Check.wrong("stands there", never);
        }
    }

    private static void words(String source) {
        Check.part("words");
        String bare = source.replaceAll("//.*", "").replaceAll("(?s)/\\*.*?\\*/", "").replaceAll("\"[^\"]*\"", "\"\"");
        Matcher imports = Pattern.compile("import ([^;]*);").matcher(source);
        while (imports.find()) {
            if (!imports.group(1).equals("java.util.NoSuchElementException")) Check.wrong("is imported", imports.group(1));
        }
        String never = "try|catch|finally|synchronized|assert|instanceof|double|float|Object|System|Thread|record|var"
            + "|getClass|hashCode|equals|toString|volatile|native|strictfp|transient|protected|package";
        Matcher words = Pattern.compile("\\b(" + never + ")\\b").matcher(bare);
        while (words.find()) Check.wrong("stands there", words.group());
        Matcher calls = Pattern.compile("\\b(Math|Integer|Long|Arrays|String|StringBuilder|List)\\.(\\w+)").matcher(bare);
        while (calls.find()) {
            if (!calls.group().equals("Math.min") && !calls.group().equals("Math.max")) Check.wrong("is called", calls.group());
        }
        Matcher thrown = Pattern.compile("throw [^;]*;").matcher(source);
        while (thrown.find()) {
            if (!thrown.group().matches("throw new (IllegalArgument|NoSuchElement)Exception\\(\"[^\"]*\"\\);")) {
                Check.wrong("is thrown", thrown.group());
            }
        }
    }

    private static void lengths(String source) {
        Check.part("rule 11");
        String[] lines = source.split("\n");
        for (int i = 0; i < lines.length; i++) {
            Matcher head = Pattern.compile("^( {4}| {8})(\\w.*\\)[^;]*) \\{$").matcher(lines[i]);
            if (!head.find()) continue;
            int end = i;
            while (end < lines.length && !lines[end].equals(head.group(1) + "}")) end++;
            if (end - i > 60) Check.wrong("has " + (end - i) + " lines", head.group(2));
        }
    }

    /** All calls of a run live in one room: the constructor makes few rows, and calls keep nothing more (nor make any: CallsTest). */
    private static void room() throws IllegalAccessException {
        Check.part("rule 12");
        CardCups x = dearest();
        long[] made = sizeOf(x);
        for (int i = 0; i < 10; i++) ask(x, i);
        long[] asked = sizeOf(x);
        if (made[0] > 1_000 || made[1] > 100_000) Check.wrong("makes " + made[0] + " objects, " + made[1] + " elements", "a constructor");
        Check.due("objects behind 240 calls", asked[0], made[0]);
        Check.due("elements behind 240 calls", asked[1], made[1]);
    }

    /** Objects and arrays that hang on it, and their fields and elements. */
    private static long[] sizeOf(Object root) throws IllegalAccessException {
        Map<Object, Object> seen = new IdentityHashMap<>();
        List<Object> open = new ArrayList<>(List.of(root));
        long elements = 0;
        while (!open.isEmpty()) {
            Object one = open.remove(open.size() - 1);
            if (seen.put(one, one) != null) continue;
            List<Object> held = new ArrayList<>();
            if (one.getClass().isArray()) {
                elements += Array.getLength(one);
                if (one instanceof Object[] row) held.addAll(Arrays.asList(row));
            } else {
                for (Field f : one.getClass().getDeclaredFields()) {
                    if (Modifier.isStatic(f.getModifiers())) continue;
                    f.setAccessible(true);
                    elements++;
                    if (!f.getType().isPrimitive()) held.add(f.get(one));
                }
            }
            for (Object h : held) if (h != null) open.add(h);
        }
        return new long[] {seen.size(), elements};
    }

    /** As much of all as there can be. */
    private static CardCups dearest() {
        StringBuilder office = new StringBuilder("machine 12;cups 6 6;fall 3;" + "person;".repeat(6));
        for (int v = 0; v < 24; v++) office.append("comes ").append(v % 6).append(' ').append(v * 9).append(';');
        String habit = "put by 7;take by 9;look by 8;start by 3 if seen=1 or in>5;turn by 5;put by 9 if warm=0;take by 5;put by 4;";
        CardCups x = Check.made(office.toString(), habit, habit + " ", "put;take by 3;look;", habit, "start by 1;", habit);
        Check.rule(x, habit);
        Check.book(x, "3 warm 0;9 card 1;");
        return x;
    }

    /** 24 calls. */
    private static void ask(CardCups x, int seed) {
        x.shift(seed, 300);
        x.image();
        x.swap();
        x.fill();
        x.keeper();
        x.spoiler();
        x.ruled(0);
        x.falling(seed);
        x.seeing(seed, 0);
        x.states(23);
        x.likeliest(23);
        x.mean(23, 0, 0);
        x.often(0);
        x.since();
        x.best(23);
        x.worth(23, 2, 0);
        x.gain(23, 0);
        x.given(23, 1, 0);
        x.fits(1);
        x.day(seed, 23, 0);
        x.span(seed, 40, 0);
        x.teach(4, 2);
        x.undo();
        x.restore();
    }
}
