import java.util.NoSuchElementException;
import java.util.Random;

/** Random texts and calls: the class answers as the Model does, to the very exception and FAULT. */
public final class ModelTest {
    private static final String[] ACTS = {"put", "take", "look", "start", "empty", "clean", "dirty", "turn"};
    private static final String[] WORDS = {"card", "warm", "in", "room", "minute", "seen", "last", "visit"};
    private static int wrong = 0;
    private static final java.util.Map<String, Integer> kinds = new java.util.TreeMap<>();

    private final Random random;
    private final CardCups cups = new CardCups();
    private final Model model = new Model();
    private final StringBuilder told = new StringBuilder();
    private int asked = 0;

    private ModelTest(long seed) {
        random = new Random(seed);
    }

    private int upTo(int n) {
        return random.nextInt(n + 1);
    }

    private boolean one(int in) {
        return random.nextInt(in) == 0;
    }

    // ---- texts ----

    private String number(int low, int high) {
        int n = one(60) ? high + 1 : one(60) ? low - 1 : low + random.nextInt(high - low + 1);
        if (n < 0) n = 0;
        return one(30) ? "00" + n : "" + n;
    }

    private String gap() {
        return one(12) ? "  " : " ";
    }

    private String office() {
        StringBuilder s = new StringBuilder();
        int held = 8;
        if (!one(4)) {
            held = 1 + upTo(11);
            s.append("machine ").append(held).append(";");
        }
        if (!one(4)) {
            int clean = upTo(held);
            s.append("cups ").append(clean).append(gap()).append(upTo(held - clean)).append(";");
        }
        if (!one(3)) s.append("card ").append(number(0, 1)).append(";");
        if (one(2)) s.append("fall ").append(one(3) ? number(0, 16) : number(0, 3)).append(gap()).append(";");
        if (one(2)) s.append("warm").append(gap()).append(number(1, 99)).append(";");
        if (one(2)) s.append("see ").append(number(0, 16)).append(";");
        if (one(2)) {
            s.append("cost");
            for (int i = 0; i < 5; i++) s.append(gap()).append(one(3) ? number(0, 99) : number(0, 9));
            s.append(";");
        }
        int people = one(10) ? upTo(7) : 1 + upTo(4);
        for (int i = 0; i < people; i++) s.append("person;");
        int visits = one(12) ? upTo(26) : one(4) ? upTo(14) : upTo(7);
        for (int i = 0; i < visits && people > 0; i++) {
            int minute = one(3) ? upTo(4) * 20 : upTo(one(2) ? 480 : 120);
            s.append("comes ").append(one(80) ? people : random.nextInt(people)).append(gap()).append(minute).append(";");
        }
        if (one(15)) s.append("person;");
        return s.toString();
    }

    private String unit(int depth) {
        if (depth > 0 && one(5)) return "(" + sum(depth - 1) + ")";
        if (one(3)) return number(0, one(6) ? 999 : 6);
        return WORDS[random.nextInt(WORDS.length)];
    }

    private String sum(int depth) {
        StringBuilder s = new StringBuilder(unit(depth));
        int more = one(3) ? 1 + upTo(2) : 0;
        for (int i = 0; i < more; i++) {
            s.append(one(3) ? "*" : one(2) ? "+" : " - ").append(unit(depth));
        }
        return s.toString();
    }

    private String claim(int depth) {
        if (depth > 0 && one(5)) return "not " + claim(depth - 1);
        if (depth > 0 && one(6)) return "[" + either(depth - 1) + "]";
        if (one(2)) {
            String[] plain = {"card = 1", "card=0", "seen = 1", "seen = 0", "warm = 1", "warm=0", "in > 2", "in < 3",
                "room = 0", "in = 0", "last < 30", "visit = 1", "minute > 60", "in * 2 > room"};
            return plain[random.nextInt(plain.length)];
        }
        return sum(depth) + gap() + "<>=".charAt(random.nextInt(3)) + (one(2) ? "" : " ") + sum(depth);
    }

    private String either(int depth) {
        StringBuilder s = new StringBuilder(claim(depth));
        int more = one(3) ? 1 + upTo(1) : 0;
        for (int i = 0; i < more; i++) s.append(one(2) ? " or " : " and ").append(claim(depth));
        return s.toString();
    }

    private String habit() {
        StringBuilder s = new StringBuilder();
        int steps = one(20) ? 7 + upTo(2) : 1 + upTo(4);
        for (int i = 0; i < steps; i++) {
            s.append(ACTS[one(2) ? random.nextInt(4) : random.nextInt(8)]);
            if (one(2)) s.append(" by").append(gap()).append(number(1, 16));
            if (one(2)) s.append(gap()).append("if ").append(either(one(20) ? 7 : 2));
            s.append(";");
        }
        return s.length() > 150 && !one(10) ? "put;take by 3;" : s.toString();
    }

    private String book() {
        StringBuilder s = new StringBuilder();
        int lines = one(15) ? 9 + upTo(2) : upTo(3);
        int visits = Math.max(1, model.office.visits.size());
        for (int i = 0; i < lines; i++) {
            s.append(one(20) ? number(0, 23) : "" + random.nextInt(visits)).append(gap());
            int kind = random.nextInt(3);
            s.append(kind == 0 ? "card " + number(0, 1) : kind == 1 ? "warm " + number(0, 1) : "in" + gap() + number(0, one(3) ? 12 : 5));
            s.append(";");
        }
        return s.toString();
    }

    private String spoilt(String text) {
        if (!one(6)) return text;
        StringBuilder s = new StringBuilder(text);
        String junk = ";;  0129()[]<>=+-*abcdorifnyAZ&\n\u00e9\u0000";
        for (int n = 1 + upTo(1); n > 0; n--) {
            int place = upTo(s.length());
            int what = random.nextInt(4);
            if (what == 0) s.insert(place, junk.charAt(random.nextInt(junk.length())));
            else if (what == 1 && s.length() > 0) s.deleteCharAt(random.nextInt(s.length()));
            else if (what == 2 && s.length() > 0) s.setCharAt(random.nextInt(s.length()), junk.charAt(random.nextInt(junk.length())));
            else s.setLength(place);
        }
        return s.toString();
    }

    // ---- calls ----

    private interface Call {
        long answer();
    }

    private static String outcome(Call call) {
        try {
            return "" + call.answer();
        } catch (NoSuchElementException e) {
            return e.getClass() == NoSuchElementException.class ? "missing" : "threw " + e;
        } catch (IllegalArgumentException e) {
            return e.getClass() == IllegalArgumentException.class ? "illegal" : "threw " + e;
        } catch (RuntimeException e) {
            return "threw " + e;
        }
    }

    private boolean same(String name, Call got, Call due) {
        // what calls answer behind the 512th is free
        if (asked == 512) return false;
        asked++;
        told.append(name).append('\n');
        String g = outcome(got);
        String d = outcome(due);
        kinds.merge(name.substring(0, name.indexOf('(')) + " " + (d.matches("-?\\d+") ? (d.startsWith("-") ? "negative" : d.equals("0") ? "zero" : "positive") : d), 1, Integer::sum);
        if (!g.equals(d)) {
            wrong++;
            if (wrong < 4) {
                System.out.println(told);
                System.out.println(name + " answered " + g + ", due is " + d);
            }
            return false;
        }
        return true;
    }

    private boolean feed(String text) {
        byte[] b = new byte[(text.length() + 19) / 20 * 20];
        for (int i = 0; i < text.length(); i++) b[i] = (byte) text.charAt(i);
        for (int i = 0; i < b.length; i += 20) {
            int[] n = new int[5];
            for (int k = 0; k < 20; k++) n[k / 4] = n[k / 4] << 8 | b[i + k] & 255;
            if (!same("feed(" + text + ")", () -> cups.feed(n[0], n[1], n[2], n[3], n[4]), () -> model.feed(n))) return false;
        }
        return true;
    }

    private boolean text(int kind) {
        String text = spoilt(kind == 0 ? office() : kind == 1 || kind == 2 ? habit() : book());
        if (text.length() > 600) return true;
        if (!feed(text)) return false;
        int n = one(40) ? text.length() + upTo(30) - 5 : text.length();
        boolean fine;
        switch (kind) {
            case 0: fine = same("office(" + n + ")", () -> cups.office(n), () -> model.office(n)); break;
            case 1: {
                int p = person();
                fine = same("habit(" + p + "," + n + ")", () -> cups.habit(p, n), () -> model.habit(p, n));
                break;
            }
            case 2: fine = same("rule(" + n + ")", () -> cups.rule(n), () -> model.rule(n)); break;
            default: fine = same("book(" + n + ")", () -> cups.book(n), () -> model.book(n)); break;
        }
        return fine && same("fault()", () -> cups.fault(), () -> model.faultPlace);
    }

    private int person() {
        return one(25) ? model.office.people : one(40) ? -1 : model.office.people == 0 ? 0 : random.nextInt(model.office.people);
    }

    private int visit() {
        int n = model.office.visits.size();
        return one(25) ? n : one(40) ? -1 : n == 0 ? 0 : random.nextInt(n);
    }

    private int what(int most) {
        return one(25) ? most + 1 : one(60) ? -1 : upTo(most);
    }

    private boolean call() {
        int v = visit();
        int p = person();
        int part = what(1);
        switch (random.nextInt(41)) {
            case 0: { int w = what(9); return same("told(" + w + ")", () -> cups.told(w), () -> model.told(w)); }
            case 1: { int w = what(3); return same("visit(" + v + "," + w + ")", () -> cups.visit(v, w), () -> model.visit(v, w)); }
            case 2: { int w = what(2); return same("person(" + p + "," + w + ")", () -> cups.person(p, w), () -> model.person(p, w)); }
            case 3: { int w = what(4); return same("price(" + w + ")", () -> cups.price(w), () -> model.price(w)); }
            case 4: return same("states(" + v + ")", () -> cups.states(v), () -> model.states(v));
            case 5: { int w = what(5); return same("likely(" + v + "," + w + ")", () -> cups.likely(v, w), () -> model.likely(v, w)); }
            case 6: {
                int held = model.office.held;
                int c = one(30) ? 13 : one(30) ? -1 : upTo(held);
                int d = one(30) ? 13 : one(30) ? -1 : one(10) ? upTo(12) : upTo(Math.max(0, held - c));
                int s = what(1);
                return same("state(" + v + "," + c + "," + d + "," + s + ")", () -> cups.state(v, c, d, s), () -> model.state(v, c, d, s));
            }
            case 7: return same("likeliest(" + v + ")", () -> cups.likeliest(v), () -> model.likeliest(v));
            case 8: { int w = what(1); return same("mean(" + v + "," + w + "," + part + ")", () -> cups.mean(v, w, part), () -> model.mean(v, w, part)); }
            case 9: return same("often(" + part + ")", () -> cups.often(part), () -> model.often(part));
            case 10: return same("since()", () -> cups.since(), () -> model.since());
            case 11: return same("drunk(" + p + "," + part + ")", () -> cups.drunk(p, part), () -> model.drunk(p, part));
            case 12: { int w = what(1); return same("done(" + w + "," + part + ")", () -> cups.done(w, part), () -> model.done(w, part)); }
            case 13: return same("cost(" + part + ")", () -> cups.cost(part), () -> model.cost(part));
            case 14: return same("fits(" + part + ")", () -> cups.fits(part), () -> model.fits(part));
            case 15: { int w = what(5); return same("given(" + v + "," + w + "," + part + ")", () -> cups.given(v, w, part), () -> model.given(v, w, part)); }
            case 16: return same("best(" + v + ")", () -> cups.best(v), () -> model.best(v));
            case 17: { int w = what(3); return same("worth(" + v + "," + w + "," + part + ")", () -> cups.worth(v, w, part), () -> model.worth(v, w, part)); }
            case 18: return same("gain(" + v + "," + part + ")", () -> cups.gain(v, part), () -> model.gain(v, part));
            case 19: { int w = what(1); return same("without(" + p + "," + w + ")", () -> cups.without(p, w), () -> model.without(p, w)); }
            case 20: return same("keeper()", () -> cups.keeper(), () -> model.keeper());
            case 21: return same("spoiler()", () -> cups.spoiler(), () -> model.spoiler());
            case 22: { int q = what(16); return same("falling(" + q + ")", () -> cups.falling(q), () -> model.falling(q)); }
            case 23: { int k = what(16); return same("seeing(" + k + "," + part + ")", () -> cups.seeing(k, part), () -> model.seeing(k, part)); }
            case 24: { int k = what(12); return same("filled(" + k + "," + part + ")", () -> cups.filled(k, part), () -> model.filled(k, part)); }
            case 25: return same("fill()", () -> cups.fill(), () -> model.fill());
            case 26: { int w = what(1); return same("ruled(" + w + ")", () -> cups.ruled(w), () -> model.ruled(w)); }
            case 27: { int o = person(); return same("swapped(" + p + "," + o + "," + part + ")", () -> cups.swapped(p, o, part), () -> model.swapped(p, o, part)); }
            case 28: return same("swap()", () -> cups.swap(), () -> model.swap());
            case 29: { int w = what(6); int s = random.nextInt(); return same("day(" + s + "," + v + "," + w + ")", () -> cups.day(s, v, w), () -> model.day(s, v, w)); }
            case 30: {
                int w = what(2);
                int s = one(4) ? Integer.MAX_VALUE - upTo(3) : random.nextInt();
                int m = what(40);
                return same("span(" + s + "," + m + "," + w + ")", () -> cups.span(s, m, w), () -> model.span(s, m, w));
            }
            case 31: { int m = minute(); return same("come(" + p + "," + m + ")", () -> cups.come(p, m), () -> model.come(p, m)); }
            case 32: return !one(2) || same("skip(" + v + ")", () -> cups.skip(v), () -> model.skip(v));
            case 33: { int m = minute(); return same("shift(" + v + "," + m + ")", () -> cups.shift(v, m), () -> model.shift(v, m)); }
            case 34: { int o = person(); return !one(3) || same("teach(" + p + "," + o + ")", () -> cups.teach(p, o), () -> model.teach(p, o)); }
            case 35: return same("undo()", () -> cups.undo(), () -> model.undo());
            case 36: return same("image()", () -> cups.image(), () -> model.image());
            case 37: return same("restore()", () -> cups.restore(), () -> model.restore());
            case 38: { int w = what(2); return same("status(" + w + ")", () -> cups.status(w), () -> model.status(w)); }
            case 39: { int w = what(3); return same("count(" + w + ")", () -> cups.count(w), () -> model.count(w)); }
            default: return same("fault()", () -> cups.fault(), () -> model.faultPlace);
        }
    }

    private int minute() {
        return one(30) ? 481 : one(30) ? -1 : !model.office.visits.isEmpty() && one(2)
            ? model.office.visits.get(random.nextInt(model.office.visits.size())).minute() : upTo(480);
    }

    private void go() {
        if (!text(0)) return;
        for (int p = 0; p < model.office.people; p++) {
            if (!text(1)) return;
        }
        if (one(2) && !text(2)) return;
        if (one(2) && !text(3)) return;
        int calls = one(30) ? 512 : 60 + upTo(40);
        for (int i = 0; i < calls; i++) {
            if (one(15)) {
                if (!text(one(8) ? 0 : 1 + random.nextInt(3))) return;
            } else if (!call()) {
                return;
            }
        }
    }

    public static void main(String[] args) {
        int runs = args.length > 0 ? Integer.parseInt(args[0]) : 1500;
        long first = args.length > 1 ? Long.parseLong(args[1]) : 1;
        for (int i = 0; i < runs && wrong < 10; i++) {
            new ModelTest(first + i).go();
        }
        if (args.length > 2) kinds.forEach((k, n) -> System.out.println(k + ": " + n));
        System.out.println(wrong == 0 ? runs + " runs are as the model's" : wrong + " answers are not as the model's");
        if (wrong != 0) System.exit(1);
    }
}
