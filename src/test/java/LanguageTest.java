import java.io.IOException;
import java.lang.reflect.Constructor;
import java.lang.reflect.Field;
import java.lang.reflect.Method;
import java.lang.reflect.Modifier;
import java.nio.file.Files;
import java.nio.file.Path;
import java.util.ArrayList;
import java.util.Arrays;
import java.util.List;
import java.util.Set;
import java.util.TreeSet;
import java.util.regex.Matcher;
import java.util.regex.Pattern;

/** The document's face, whole and alone, and what of LANGUAGE.md can be seen from outside or read off the lines. */
public final class LanguageTest {
    private static final Path SOURCE = Path.of("src/main/java/CardCups.java");
    private static final Path DOC = Path.of("../shared/DOC.md");

    public static void main(String[] args) throws IOException {
        String source = Files.readString(SOURCE);
        face();
        members();
        classes();
        signs(source);
        words(source);
        lengths(source);
        Check.end();
    }

    private static void face() throws IOException {
        Check.part("the public face");
        String doc = Files.readString(DOC);
        String block = doc.substring(doc.indexOf("```java"), doc.indexOf("```", doc.indexOf("```java") + 7));
        Set<String> due = new TreeSet<>();
        Matcher m = Pattern.compile("public (int|long) (\\w+)\\(([^)]*)\\)(?: throws ([^;]*))?;").matcher(block);
        while (m.find()) {
            StringBuilder types = new StringBuilder();
            for (String p : m.group(3).split(",")) {
                if (!p.isBlank()) types.append(p.trim().split(" ")[0]).append(' ');
            }
            Set<String> thrown = new TreeSet<>();
            if (m.group(4) != null) for (String t : m.group(4).split(",")) thrown.add(t.trim());
            due.add(m.group(1) + " " + m.group(2) + "(" + types + ")" + thrown);
        }
        Set<String> got = new TreeSet<>();
        for (Method one : CardCups.class.getDeclaredMethods()) {
            if (Modifier.isPrivate(one.getModifiers())) continue;
            StringBuilder types = new StringBuilder();
            for (Class<?> p : one.getParameterTypes()) types.append(p.getName()).append(' ');
            Set<String> thrown = new TreeSet<>();
            for (Class<?> t : one.getExceptionTypes()) thrown.add(t.getSimpleName());
            got.add(one.getReturnType() + " " + one.getName() + "(" + types + ")" + thrown);
        }
        Check.due("methods of the document", due.size(), 46);
        if (!got.equals(due)) Check.wrong("is " + got, "the face");
    }

    private static void members() {
        Check.part("rules 1, 5, 11");
        Check.due("public final", CardCups.class.getModifiers(), Modifier.PUBLIC | Modifier.FINAL);
        Constructor<?>[] made = CardCups.class.getDeclaredConstructors();
        Check.due("constructors", made.length, 1);
        Check.due("it is public, without arguments", made[0].getModifiers() + 100 * made[0].getParameterCount(), Modifier.PUBLIC);
        for (Field f : CardCups.class.getDeclaredFields()) {
            if (!Modifier.isPrivate(f.getModifiers()) && !f.getName().equals("NONE")) Check.wrong("is not private", f.getName());
        }
        Set<String> open = new TreeSet<>();
        for (Method m : CardCups.class.getDeclaredMethods()) if (Modifier.isPublic(m.getModifiers())) open.add(m.getName());
        for (Class<?> c : all()) {
            int fields = 0;
            for (Field f : c.getDeclaredFields()) {
                boolean fixed = Modifier.isStatic(f.getModifiers());
                if (fixed && !Modifier.isFinal(f.getModifiers())) Check.wrong("is static and not final", f.getName());
                if (!fixed) fields++;
            }
            if (fields > 20) Check.wrong("has " + fields + " fields", c.getName());
            for (Method m : c.getDeclaredMethods()) {
                boolean own = c == CardCups.class && Modifier.isPublic(m.getModifiers());
                if (!own && open.contains(m.getName())) Check.wrong("bears a name of the face", c.getName() + "." + m.getName());
                if (m.getParameterCount() > 7) Check.wrong("takes too much", m.getName());
            }
        }
    }

    private static List<Class<?>> all() {
        List<Class<?>> all = new ArrayList<>(Arrays.asList(CardCups.class.getDeclaredClasses()));
        all.add(0, CardCups.class);
        return all;
    }

    private static void classes() {
        Check.part("rules 2, 11");
        if (all().size() > 12) Check.wrong("are " + all().size(), "classes");
        for (Class<?> c : CardCups.class.getDeclaredClasses()) {
            int m = c.getModifiers();
            if (!Modifier.isStatic(m) || Modifier.isPublic(m) || Modifier.isProtected(m)) Check.wrong("is open", c.getName());
            if (c.getDeclaredClasses().length > 0) Check.wrong("has classes of its own", c.getName());
        }
    }

    private static void signs(String source) {
        Check.part("signs");
        for (int i = 0; i < source.length(); i++) {
            if (source.charAt(i) > 126) Check.wrong("is none of ASCII", "the sign at " + i);
        }
        for (String never : new String[] {"->", "::", "\" +", "+ \"", "@", "yield", "%s"}) {
            if (source.contains(never)) Check.wrong("stands there", never);
        }
    }

    private static void words(String source) {
        Check.part("words");
        String bare = source.replaceAll("//.*", "").replaceAll("(?s)/\\*.*?\\*/", "").replaceAll("\"[^\"]*\"", "\"\"");
        Matcher imports = Pattern.compile("import ([^;]*);").matcher(source);
        while (imports.find()) {
            if (!imports.group(1).equals("java.util.NoSuchElementException")) Check.wrong("is imported", imports.group(1));
        }
        String never = "try|catch|finally|synchronized|assert|instanceof|double|float|Object|System|Thread|record|var"
            + "|getClass|hashCode|equals|toString|volatile|native|strictfp|transient|protected|package";
        Matcher words = Pattern.compile("\\b(" + never + ")\\b").matcher(bare);
        while (words.find()) Check.wrong("stands there", words.group());
        Matcher calls = Pattern.compile("\\b(Math|Integer|Long|Arrays|String|StringBuilder|List)\\.(\\w+)").matcher(bare);
        while (calls.find()) {
            if (!calls.group().equals("Math.min") && !calls.group().equals("Math.max")) Check.wrong("is called", calls.group());
        }
        Matcher thrown = Pattern.compile("throw [^;]*;").matcher(source);
        while (thrown.find()) {
            if (!thrown.group().matches("throw new (IllegalArgument|NoSuchElement)Exception\\(\"[^\"]*\"\\);")) {
                Check.wrong("is thrown", thrown.group());
            }
        }
    }

    private static void lengths(String source) {
        Check.part("rule 11");
        String[] lines = source.split("\n");
        for (int i = 0; i < lines.length; i++) {
            Matcher head = Pattern.compile("^( {4}| {8})(\\w.*\\)[^;]*) \\{$").matcher(lines[i]);
            if (!head.find()) continue;
            int end = i;
            while (end < lines.length && !lines[end].equals(head.group(1) + "}")) end++;
            if (end - i > 60) Check.wrong("has " + (end - i) + " lines", head.group(2));
        }
    }
}
