import java.util.ArrayList;
import java.util.List;
import java.util.NoSuchElementException;

/**
 * A call that is refused leaves everything as it was: of two objects made alike one is asked, and then both answer all
 * that can be asked of them alike, to what they undo, restore and read off the TAPE.
 */
final class Twins {
    interface Maker {
        CardCups made();
    }

    interface Use {
        long answer(CardCups cups);
    }

    private interface Question {
        long answer();
    }

    private Twins() {}

    static void missing(String what, Maker maker, Use call) {
        refused(what, maker, call, NoSuchElementException.class);
    }

    static void illegal(String what, Maker maker, Use call) {
        refused(what, maker, call, IllegalArgumentException.class);
    }

    private static void refused(String what, Maker maker, Use call, Class<?> kind) {
        CardCups asked = maker.made();
        CardCups other = maker.made();
        try {
            Check.wrong("answered " + call.answer(asked) + ", due is a " + kind.getSimpleName(), what);
        } catch (RuntimeException e) {
            if (e.getClass() != kind) Check.wrong("threw " + e + ", due is a " + kind.getSimpleName(), what);
        }
        boolean missing = kind == NoSuchElementException.class;
        Check.due(what + ": status 0", asked.status(0), other.status(0) + (missing ? 1 : 0));
        Check.due(what + ": status 1", asked.status(1), other.status(1) + (missing ? 0 : 1));
        alike(what, asked, other, true);
    }

    /** It answers -1 and does nothing; nothing is refused. */
    static void idle(String what, Maker maker, Use call) {
        CardCups asked = maker.made();
        CardCups other = maker.made();
        Check.due(what, call.answer(asked), -1);
        Check.due(what + ": status 0", asked.status(0), other.status(0));
        Check.due(what + ": status 1", asked.status(1), other.status(1));
        alike(what, asked, other, true);
    }

    /** A text with a FAULT: all but the TAPE stays (the maker leaves the TAPE empty). */
    static void faulty(String what, Maker maker, String text, Use read, int kind, int place) {
        CardCups asked = maker.made();
        CardCups other = maker.made();
        Check.feed(asked, text);
        Check.due(what, read.answer(asked), kind - 10);
        Check.due(what + ": its place", asked.fault(), place);
        Check.due(what + ": status", asked.status(0) + asked.status(1), other.status(0) + other.status(1));
        alike(what, asked, other, false);
    }

    static void alike(String what, CardCups asked, CardCups other, boolean faultToo) {
        List<String> got = all(asked, faultToo);
        List<String> due = all(other, faultToo);
        Check.due(what + ": questions", got.size(), due.size());
        for (int i = 0; i < got.size() && i < due.size(); i++) {
            if (!got.get(i).equals(due.get(i))) {
                Check.wrong("left " + got.get(i) + ", due is " + due.get(i), what);
                return;
            }
        }
    }

    // ---- all that can be asked ----

    private static void ask(List<String> answers, String what, Question question) {
        String answer;
        try {
            answer = "" + question.answer();
        } catch (NoSuchElementException | IllegalArgumentException e) {
            answer = e.getClass().getSimpleName();
        }
        answers.add(what + ": " + answer);
    }

    private static List<String> all(CardCups x, boolean faultToo) {
        List<String> answers = ask(x);
        if (faultToo) ask(answers, "fault", () -> x.fault());
        behind(answers, x);
        return answers;
    }

    /** What can be asked without changing anything. */
    static List<String> ask(CardCups x) {
        List<String> answers = new ArrayList<>();
        told(answers, x);
        for (int p = 0; p < x.told(7); p++) person(answers, x, p);
        for (int v = 0; v < Math.min(4, x.told(8)); v++) visit(answers, x, v);
        together(answers, x);
        return answers;
    }

    /** What was reckoned ahead of a change is not answered behind it. */
    static void anew(String what, Maker maker, Use change) {
        CardCups asked = maker.made();
        CardCups other = maker.made();
        ask(asked);
        Check.due(what, change.answer(asked), change.answer(other));
        alike(what, asked, other, true);
    }

    private static void told(List<String> answers, CardCups x) {
        for (int i = 0; i < 10; i++) {
            int w = i;
            ask(answers, "told " + w, () -> x.told(w));
        }
        for (int i = 0; i < 5; i++) {
            int w = i;
            ask(answers, "price " + w, () -> x.price(w));
        }
        for (int i = 0; i < 3; i++) {
            int w = i;
            ask(answers, "count " + w, () -> x.count(w));
        }
        diary(answers, x);
    }

    private static void diary(List<String> answers, CardCups x) {
        int visits = x.told(8);
        StringBuilder s = new StringBuilder().append(visits);
        for (int v = 0; v < visits; v++) {
            // of many VISITS the first ones and the last one are enough
            if (v < 4 || v == visits - 1) s.append(", ").append(x.visit(v, 0)).append(" in ").append(x.visit(v, 1));
        }
        answers.add("the diary: " + s);
    }

    private static void person(List<String> answers, CardCups x, int p) {
        for (int i = 0; i < 3; i++) {
            int w = i;
            ask(answers, "person " + p + " " + w, () -> x.person(p, w));
        }
        for (int i = 0; i < 2; i++) {
            int w = i;
            ask(answers, "drunk " + p + " " + w, () -> x.drunk(p, w));
            ask(answers, "without " + p + " " + w, () -> x.without(p, w));
        }
    }

    private static void visit(List<String> answers, CardCups x, int v) {
        ask(answers, "states " + v, () -> x.states(v));
        ask(answers, "likeliest " + v, () -> x.likeliest(v));
        ask(answers, "best " + v, () -> x.best(v));
        ask(answers, "gain " + v, () -> x.gain(v, 0));
        for (int i = 0; i < 6; i++) {
            int w = i;
            ask(answers, "likely " + v + " " + w, () -> x.likely(v, w));
            ask(answers, "given " + v + " " + w, () -> x.given(v, w, 0));
        }
        for (int i = 0; i < 4; i++) {
            int w = i;
            ask(answers, "visit " + v + " " + w, () -> x.visit(v, w));
            ask(answers, "worth " + v + " " + w, () -> x.worth(v, w, 0));
        }
        ask(answers, "mean " + v, () -> x.mean(v, 0, 0));
        ask(answers, "state " + v, () -> x.state(v, 1, 1, 0));
    }

    private static void together(List<String> answers, CardCups x) {
        ask(answers, "often", () -> x.often(0));
        ask(answers, "since", () -> x.since());
        ask(answers, "done 0", () -> x.done(0, 0));
        ask(answers, "done 1", () -> x.done(1, 0));
        ask(answers, "cost above", () -> x.cost(0));
        ask(answers, "cost below", () -> x.cost(1));
        ask(answers, "fits above", () -> x.fits(0));
        ask(answers, "fits below", () -> x.fits(1));
        ask(answers, "keeper", () -> x.keeper());
        ask(answers, "spoiler", () -> x.spoiler());
        ask(answers, "falling", () -> x.falling(5));
        ask(answers, "seeing", () -> x.seeing(7, 0));
        ask(answers, "filled", () -> x.filled(2, 0));
        ask(answers, "fill", () -> x.fill());
        ask(answers, "ruled 0", () -> x.ruled(0));
        ask(answers, "ruled 1", () -> x.ruled(1));
        ask(answers, "swapped", () -> x.swapped(0, 1, 0));
        ask(answers, "swap", () -> x.swap());
        for (int i = 0; i < 3; i++) {
            int w = i;
            ask(answers, "span " + w, () -> x.span(3, 7, w));
        }
        for (int i = 0; i < 7; i++) {
            int w = i;
            ask(answers, "day " + w, () -> x.day(9, x.told(8) - 1, w));
        }
    }

    /** What shows only as it goes: the bytes of the TAPE, the changes and the IMAGES. */
    private static void behind(List<String> answers, CardCups x) {
        int bytes = Math.min(150, x.count(1));
        ask(answers, "the TAPE as a RULE", () -> x.rule(bytes));
        ask(answers, "its RULE 0", () -> x.ruled(0));
        ask(answers, "its RULE 1", () -> x.ruled(1));
        for (int image = 0; image < 4; image++) {
            for (int change = 0; change < 21; change++) {
                ask(answers, "undo", () -> x.undo());
                diary(answers, x);
                if (x.count(2) == 0) break;
            }
            ask(answers, "restore", () -> x.restore());
            diary(answers, x);
            if (x.count(0) == 0) break;
        }
        ask(answers, "changes", () -> x.count(2));
    }
}
