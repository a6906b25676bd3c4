import java.util.NoSuchElementException;

/** What the tests share: texts fed as numbers, and answers held against those that are due. */
final class Check {
    static final long ONE = 1099511627776L;

    private static int wrong = 0;
    private static String part = "";

    interface Call {
        long answer();
    }

    private Check() {}

    static void part(String name) {
        part = name;
    }

    static void due(String what, long got, long want) {
        if (got != want) {
            wrong("answered " + got + ", due is " + want, what);
        }
    }

    static void missing(String what, Call call) {
        throwing(what, call, NoSuchElementException.class);
    }

    static void illegal(String what, Call call) {
        throwing(what, call, IllegalArgumentException.class);
    }

    private static void throwing(String what, Call call, Class<?> kind) {
        try {
            wrong("answered " + call.answer() + ", due is a " + kind.getSimpleName(), what);
        } catch (RuntimeException e) {
            if (e.getClass() != kind) {
                wrong("threw " + e + ", due is a " + kind.getSimpleName(), what);
            }
        }
    }

    static void wrong(String said, String what) {
        wrong++;
        System.out.println(part + ": " + what + " " + said);
    }

    static void end() {
        System.out.println(wrong == 0 ? "all is as due" : wrong + " are not as due");
        if (wrong != 0) {
            System.exit(1);
        }
    }

    /** Feeds a text, its last twenty bytes filled up with noughts. */
    static void feed(CardCups cups, String text) {
        for (int i = 0; i < text.length(); i += 20) {
            int[] n = new int[5];
            for (int k = 0; k < 20; k++) {
                int sign = i + k < text.length() ? text.charAt(i + k) & 255 : 0;
                n[k / 4] = n[k / 4] << 8 | sign;
            }
            cups.feed(n[0], n[1], n[2], n[3], n[4]);
        }
    }

    static int office(CardCups cups, String text) {
        feed(cups, text);
        return cups.office(text.length());
    }

    static int habit(CardCups cups, int person, String text) {
        feed(cups, text);
        return cups.habit(person, text.length());
    }

    static int rule(CardCups cups, String text) {
        feed(cups, text);
        return cups.rule(text.length());
    }

    static int book(CardCups cups, String text) {
        feed(cups, text);
        return cups.book(text.length());
    }

    /** A new object with an OFFICE, HABITS (of PERSON 0 on), all of which are fine. */
    static CardCups made(String office, String... habits) {
        CardCups cups = new CardCups();
        if (office(cups, office) < 0) {
            wrong("is no OFFICE", office);
        }
        for (int p = 0; p < habits.length; p++) {
            if (habit(cups, p, habits[p]) < 0) {
                wrong("is no HABIT", habits[p]);
            }
        }
        return cups;
    }

    static String times(int n, String text) {
        return text.repeat(n);
    }
}
