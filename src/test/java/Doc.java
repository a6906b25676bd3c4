import java.io.IOException;
import java.nio.file.Files;
import java.nio.file.Path;
import java.util.LinkedHashMap;
import java.util.Map;

/** The words of the document, and which of them a check has named: what no check names, none holds. */
final class Doc {
    private static final Path PLACE = Path.of("../shared/DOC.md");
    private static final Map<String, Doc> SECTIONS = new LinkedHashMap<>();
    private static Doc here;

    private final String words;
    private final boolean[] named;

    private Doc(String words) {
        this.words = words;
        this.named = new boolean[words.length()];
    }

    static void read() throws IOException {
        String[] sections = Files.readString(PLACE).split("(?m)^## ");
        for (String section : sections) {
            int line = section.indexOf('\n');
            if (line < 0) continue;
            String name = section.substring(0, line).replaceAll(":.*", "").trim();
            // the face is held by LanguageTest
            if (!name.equals("What it is") && !name.equals("Terms") && !name.startsWith("Promise ")) continue;
            String words = section.substring(line)
                .replaceAll("(?m)^```.*$", "").replaceAll("`[^`]*`:", "").replaceAll("==== \\d\\.", "")
                .replaceAll("\\s+", " ").trim();
            SECTIONS.put(name, new Doc(words));
        }
        Check.due("sections of the document", SECTIONS.size(), 49);
    }

    /** The checks behind it hold a sentence of this section. */
    static void section(String name) {
        Check.part(name);
        here = SECTIONS.get(name);
        if (here == null) Check.wrong("is no section of the document", name);
    }

    /** The checks behind it hold these words, which stand in the section. */
    static void says(String words) {
        int at = here == null ? -1 : here.words.indexOf(words);
        Check.part(words);
        if (at < 0) {
            Check.wrong("is not in its section of the document", words);
            return;
        }
        for (int i = at; i < at + words.length(); i++) here.named[i] = true;
    }

    /** Each word of the document has been named by a check. */
    static void end() {
        for (Map.Entry<String, Doc> one : SECTIONS.entrySet()) {
            Check.part(one.getKey());
            Doc doc = one.getValue();
            StringBuilder left = new StringBuilder();
            for (int i = 0; i < doc.named.length; i++) {
                if (!doc.named[i]) left.append(doc.words.charAt(i));
            }
            if (!left.toString().isBlank()) Check.wrong("is named by no check", left.toString().trim());
        }
    }
}
