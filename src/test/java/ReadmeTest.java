import java.io.ByteArrayOutputStream;
import java.io.IOException;
import java.io.PrintStream;
import java.lang.reflect.Method;
import java.lang.reflect.Modifier;
import java.nio.charset.StandardCharsets;
import java.nio.file.DirectoryStream;
import java.nio.file.Files;
import java.nio.file.Path;
import java.util.ArrayList;
import java.util.List;
import java.util.regex.Matcher;
import java.util.regex.Pattern;

/** What README.md shows is what the class does: its example, its table of FAULTS, its calls, its tests. */
public final class ReadmeTest {
    private static final Path TESTS = Path.of("src/test/java");

    private ReadmeTest() {}

    public static void main(String[] args) throws IOException {
        String readme = Files.readString(Path.of("README.md"));
        example(readme);
        feeds(readme);
        reads(readme);
        faults(readme);
        calls(readme);
        tests(readme);
        Check.end();
    }

    // ---- the example ----

    private static void example(String readme) throws IOException {
        Check.part("the example");
        alike("its text", block(readme, "java"), Files.readString(TESTS.resolve("Example.java")).strip());
        alike("its output", block(readme, "text"), printed().strip());
    }

    /** The first block of a kind. */
    private static String block(String readme, String kind) {
        Matcher block = Pattern.compile("(?s)```" + kind + "\n(.*?)\n```").matcher(readme);
        return block.find() ? block.group(1) : "";
    }

    private static String printed() {
        PrintStream before = System.out;
        ByteArrayOutputStream bytes = new ByteArrayOutputStream();
        System.setOut(new PrintStream(bytes, true, StandardCharsets.UTF_8));
        Example.main(new String[0]);
        System.setOut(before);
        return bytes.toString(StandardCharsets.UTF_8).replace("\r\n", "\n");
    }

    private static void alike(String what, String shown, String due) {
        if (!shown.equals(due)) Check.wrong("stands there as\n" + shown + "\nbut is\n" + due, what);
    }

    // ---- texts ----

    private static void feeds(String readme) {
        Check.part("a feed");
        Matcher feed = Pattern.compile("`feed\\((0x\\w+), (0x\\w+), (0x\\w+), (0x\\w+), (0x\\w+)\\)`").matcher(readme);
        Check.due("stands there", feed.find() ? 1 : 0, 1);
        int[] n = new int[5];
        for (int i = 0; i < 5; i++) n[i] = Integer.decode(feed.group(i + 1));
        CardCups x = new CardCups();
        Check.due("bytes", x.feed(n[0], n[1], n[2], n[3], n[4]), 20);
        Check.due("is an OFFICE", x.office(20), 0);
        Check.due("card 1;", x.told(3), 1);
    }

    /** The CLAUSES, STEPS and lines that are listed are such. */
    private static void reads(String readme) {
        Check.part("texts listed");
        Check.due("an OFFICE", Check.office(new CardCups(), listed(readme, "an OFFICE of")), 1);
        Check.due("a HABIT", Check.habit(Check.made("person;"), 0, listed(readme, "a HABIT or")), 4);
        Check.due("a BOOK", Check.book(new CardCups(), listed(readme, "a BOOK of")), 3);
    }

    /** What stands between ` and ends in ; in the item of a list that begins so. */
    private static String listed(String readme, String start) {
        Matcher item = Pattern.compile("(?s)\n- " + start + "(.*?)\n(?=-|\n)").matcher(readme);
        if (!item.find()) return "";
        StringBuilder all = new StringBuilder();
        Matcher one = Pattern.compile("`([^`]*;)`").matcher(item.group(1));
        while (one.find()) all.append(one.group(1));
        return all.toString();
    }

    private static void faults(String readme) {
        Check.part("the table of FAULTS");
        Matcher row = Pattern.compile("\n(?=\\| `([^`]*)` \\| (office|habit|rule|book) \\| (-\\d+) \\| (\\d+) \\| (\\d):)").matcher(readme);
        int rows = 0;
        while (row.find()) {
            CardCups x = Check.made("person;");
            Check.feed(x, row.group(1));
            Check.due(row.group(1), read(x, row.group(2), row.group(1).length()), Integer.parseInt(row.group(3)));
            Check.due("the place in " + row.group(1), x.fault(), Integer.parseInt(row.group(4)));
            Check.due("the kind of " + row.group(1), Integer.parseInt(row.group(5)), Integer.parseInt(row.group(3)) + 10);
            rows++;
        }
        Check.due("rows", rows, 8);
    }

    private static int read(CardCups x, String by, int n) {
        switch (by) {
            case "office": return x.office(n);
            case "habit": return x.habit(0, n);
            case "rule": return x.rule(n);
            default: return x.book(n);
        }
    }

    // ---- what must stand on the page ----

    private static void calls(String readme) {
        Check.part("calls");
        for (Method one : CardCups.class.getDeclaredMethods()) {
            if (!Modifier.isPublic(one.getModifiers())) continue;
            Matcher shown = Pattern.compile("`" + one.getName() + "\\(([^`]*)\\)`").matcher(readme);
            int most = -1;
            while (shown.find()) most = Math.max(most, shown.group(1).isEmpty() ? 0 : shown.group(1).split(",").length);
            Check.due("arguments of " + one.getName(), most, one.getParameterCount());
        }
    }

    private static void tests(String readme) throws IOException {
        Check.part("tests");
        List<String> names = new ArrayList<>();
        try (DirectoryStream<Path> files = Files.newDirectoryStream(TESTS, "*Test.java")) {
            for (Path file : files) names.add(file.getFileName().toString().replace(".java", ""));
        }
        for (String name : names) {
            if (!readme.contains("\n- `" + name + "`: ")) Check.wrong("is not told of", name);
        }
    }
}
