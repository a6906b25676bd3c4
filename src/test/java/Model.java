import java.math.BigInteger;
import java.util.ArrayList;
import java.util.Arrays;
import java.util.HashMap;
import java.util.List;
import java.util.Map;
import java.util.NoSuchElementException;

/**
 * The document once more, as plainly as can be and with no regard to speed: each question is reckoned anew from the
 * texts. The class is held against it, call by call, with random texts.
 */
final class Model {
    static final long ONE = 1L << 40;
    static final int NONE = -1;

    // ---- the texts ----

    record Token(char kind, String text, int place) {}

    static final class Fault extends Exception {
        final int kind;
        final int place;

        Fault(int kind, int place) {
            this.kind = kind;
            this.place = place;
        }
    }

    interface Value {
        int of(Map<String, Integer> words);
    }

    interface Claim {
        boolean of(Map<String, Integer> words);
    }

    record Step(String act, int by, Claim condition) {}

    record Visit(int person, int minute) {}

    record Line(int visit, String kind, int value) {}

    static final class Text {
        final List<Token> tokens = new ArrayList<>();
        int at = 0;

        Text(byte[] bytes, int n) {
            int i = 0;
            while (i < n) {
                int start = i;
                int c = bytes[i] & 255;
                if (c == 32) {
                    i++;
                    continue;
                }
                char kind;
                if (c >= '0' && c <= '9') {
                    kind = 'n';
                    while (i < n && bytes[i] >= '0' && bytes[i] <= '9') i++;
                } else if (c >= 'a' && c <= 'z') {
                    kind = 'w';
                    while (i < n && bytes[i] >= 'a' && bytes[i] <= 'z') i++;
                } else {
                    kind = 's';
                    i++;
                }
                StringBuilder sb = new StringBuilder();
                for (int k = start; k < i; k++) sb.append((char) (bytes[k] & 255));
                tokens.add(new Token(kind, sb.toString(), start));
            }
            tokens.add(new Token('e', "", n));
        }

        Token peek() {
            return tokens.get(at);
        }

        boolean ended() {
            return peek().kind == 'e';
        }

        boolean next(char kind, String text) {
            return peek().kind == kind && peek().text.equals(text);
        }

        boolean eat(char kind, String text) {
            if (!next(kind, text)) return false;
            at++;
            return true;
        }

        void sign(String text) throws Fault {
            if (!eat('s', text)) throw new Fault(1, peek().place);
        }

        String word(String... allowed) throws Fault {
            Token t = peek();
            if (t.kind != 'w' || !Arrays.asList(allowed).contains(t.text)) throw new Fault(1, t.place);
            at++;
            return t.text;
        }

        int number(int low, int high) throws Fault {
            Token t = peek();
            if (t.kind != 'n') throw new Fault(1, t.place);
            BigInteger v = new BigInteger(t.text);
            if (v.compareTo(BigInteger.valueOf(low)) < 0 || v.compareTo(BigInteger.valueOf(high)) > 0) {
                throw new Fault(2, t.place);
            }
            at++;
            return v.intValue();
        }
    }

    static final class Office {
        int held = 8;
        int clean = 0;
        int dirty = 0;
        int card = 0;
        int fall = 0;
        int warm = 30;
        int see = 12;
        int[] price = {9, 1, 1, 3, 2};
        int people = 0;
        List<Visit> visits = new ArrayList<>();

        Office() {}

        Office(Text t) throws Fault {
            int clauses = 0;
            while (!t.ended()) {
                int place = t.peek().place;
                String w = t.word("machine", "cups", "card", "fall", "warm", "see", "cost", "person", "comes");
                boolean many = clauses == 60 || w.equals("person") && people == 6 || w.equals("comes") && visits.size() == 24;
                if (many) throw new Fault(3, place);
                if (w.equals("machine") && clauses > 0) throw new Fault(4, place);
                switch (w) {
                    case "machine" -> held = t.number(1, 12);
                    case "cups" -> {
                        clean = t.number(0, held);
                        dirty = t.number(0, held - clean);
                    }
                    case "card" -> card = t.number(0, 1);
                    case "fall" -> fall = t.number(0, 16);
                    case "warm" -> warm = t.number(1, 99);
                    case "see" -> see = t.number(0, 16);
                    case "cost" -> price = new int[] {t.number(0, 99), t.number(0, 99), t.number(0, 99), t.number(0, 99), t.number(0, 99)};
                    case "person" -> people++;
                    default -> {
                        int p = t.number(0, people - 1);
                        visits.add(new Visit(p, t.number(0, 480)));
                    }
                }
                t.sign(";");
                clauses++;
            }
            visits.sort((a, b) -> Integer.compare(a.minute, b.minute));
        }
    }

    static List<Step> steps(Text t) throws Fault {
        List<Step> steps = new ArrayList<>();
        while (!t.ended()) {
            int place = t.peek().place;
            String act = t.word("put", "take", "look", "start", "empty", "clean", "dirty", "turn");
            if (steps.size() == 8) throw new Fault(3, place);
            int by = t.eat('w', "by") ? t.number(1, 16) : 0;
            Claim c = t.eat('w', "if") ? c(t, 0) : null;
            t.sign(";");
            steps.add(new Step(act, by, c));
        }
        return steps;
    }

    static Claim c(Text t, int open) throws Fault {
        Claim left = d(t, open);
        while (t.eat('w', "or")) {
            Claim a = left;
            Claim b = d(t, open);
            left = w -> a.of(w) || b.of(w);
        }
        return left;
    }

    static Claim d(Text t, int open) throws Fault {
        Claim left = b(t, open);
        while (t.eat('w', "and")) {
            Claim a = left;
            Claim b = b(t, open);
            left = w -> a.of(w) && b.of(w);
        }
        return left;
    }

    static int opened(Text t, int open) throws Fault {
        if (open == 6) throw new Fault(3, t.peek().place);
        t.at++;
        return open + 1;
    }

    static Claim b(Text t, int open) throws Fault {
        if (t.next('w', "not")) {
            Claim a = b(t, opened(t, open));
            return w -> !a.of(w);
        }
        if (t.next('s', "[")) {
            Claim a = c(t, opened(t, open));
            t.sign("]");
            return a;
        }
        Value left = e(t, open);
        boolean less = t.eat('s', "<");
        boolean more = !less && t.eat('s', ">");
        if (!less && !more) t.sign("=");
        Value right = e(t, open);
        if (less) return w -> left.of(w) < right.of(w);
        if (more) return w -> left.of(w) > right.of(w);
        return w -> left.of(w) == right.of(w);
    }

    static Value e(Text t, int open) throws Fault {
        Value left = product(t, open);
        while (t.next('s', "+") || t.next('s', "-")) {
            boolean plus = t.eat('s', "+");
            if (!plus) t.sign("-");
            Value a = left;
            Value b = product(t, open);
            left = plus ? w -> a.of(w) + b.of(w) : w -> a.of(w) - b.of(w);
        }
        return left;
    }

    static Value product(Text t, int open) throws Fault {
        Value left = unit(t, open);
        while (t.eat('s', "*")) {
            Value a = left;
            Value b = unit(t, open);
            left = w -> a.of(w) * b.of(w);
        }
        return left;
    }

    static Value unit(Text t, int open) throws Fault {
        if (t.next('s', "(")) {
            Value v = e(t, opened(t, open));
            t.sign(")");
            return v;
        }
        if (t.peek().kind == 'w') {
            String name = t.word("card", "warm", "in", "room", "minute", "seen", "last", "visit");
            return w -> w.get(name);
        }
        int n = t.number(0, 999);
        return w -> n;
    }

    static List<Line> lines(Text t) throws Fault {
        List<Line> lines = new ArrayList<>();
        while (!t.ended()) {
            int place = t.peek().place;
            int visit = t.number(0, 23);
            if (lines.size() == 10) throw new Fault(3, place);
            String kind = t.word("card", "warm", "in");
            int value = t.number(0, kind.equals("in") ? 12 : 1);
            t.sign(";");
            lines.add(new Line(visit, kind, value));
        }
        return lines;
    }

    // ---- what is kept ----

    final List<Byte> tape = new ArrayList<>();
    Office office = new Office();
    final List<List<Step>> habits = new ArrayList<>();
    List<Step> rule = new ArrayList<>();
    List<Line> book = new ArrayList<>();
    List<List<Visit>> past = new ArrayList<>();
    final List<List<List<Visit>>> images = new ArrayList<>();
    int faultPlace = NONE;
    int missing = 0;
    int wrong = 0;

    byte[] bytes() {
        byte[] all = new byte[tape.size()];
        for (int i = 0; i < all.length; i++) all[i] = tape.get(i);
        return all;
    }

    void needPerson(int p) {
        if (p < 0 || p >= office.people) {
            missing++;
            throw new NoSuchElementException();
        }
    }

    void needVisit(int v) {
        if (v < 0 || v >= office.visits.size()) {
            missing++;
            throw new NoSuchElementException();
        }
    }

    void need(boolean fine) {
        if (!fine) {
            wrong++;
            throw new IllegalArgumentException();
        }
    }

    void needIn(int n, int low, int high) {
        need(n >= low && n <= high);
    }

    int feed(int... numbers) {
        if (tape.size() + 20 > 600) return NONE;
        for (int n : numbers) {
            for (int i = 3; i >= 0; i--) tape.add((byte) (n >> 8 * i));
        }
        return tape.size();
    }

    int office(int n) {
        needIn(n, 0, tape.size());
        byte[] b = bytes();
        tape.clear();
        try {
            office = new Office(new Text(b, n));
        } catch (Fault f) {
            faultPlace = f.place;
            return f.kind - 10;
        }
        faultPlace = NONE;
        habits.clear();
        for (int i = 0; i < office.people; i++) habits.add(new ArrayList<>());
        rule = new ArrayList<>();
        book = new ArrayList<>();
        past.clear();
        images.clear();
        return office.visits.size();
    }

    int habit(int p, int n) {
        needPerson(p);
        needIn(n, 0, Math.min(150, tape.size()));
        byte[] b = bytes();
        tape.clear();
        try {
            habits.set(p, steps(new Text(b, n)));
        } catch (Fault f) {
            faultPlace = f.place;
            return f.kind - 10;
        }
        faultPlace = NONE;
        return habits.get(p).size();
    }

    int rule(int n) {
        needIn(n, 0, Math.min(150, tape.size()));
        byte[] b = bytes();
        tape.clear();
        try {
            rule = steps(new Text(b, n));
        } catch (Fault f) {
            faultPlace = f.place;
            return f.kind - 10;
        }
        faultPlace = NONE;
        return rule.size();
    }

    int book(int n) {
        needIn(n, 0, Math.min(150, tape.size()));
        byte[] b = bytes();
        tape.clear();
        try {
            book = lines(new Text(b, n));
        } catch (Fault f) {
            faultPlace = f.place;
            return f.kind - 10;
        }
        faultPlace = NONE;
        return book.size();
    }

    int told(int what) {
        needIn(what, 0, 9);
        return new int[] {office.held, office.clean, office.dirty, office.card, office.fall, office.warm, office.see,
            office.people, office.visits.size(), book.size()}[what];
    }

    int which(int v) {
        int n = 0;
        for (int i = 0; i <= v; i++) if (office.visits.get(i).person == office.visits.get(v).person) n++;
        return n;
    }

    int last(int v) {
        int last = 999;
        for (int i = 0; i < v; i++) {
            if (office.visits.get(i).person == office.visits.get(v).person) {
                last = office.visits.get(v).minute - office.visits.get(i).minute;
            }
        }
        return last;
    }

    int visit(int v, int what) {
        needVisit(v);
        needIn(what, 0, 3);
        Visit one = office.visits.get(v);
        return what == 0 ? one.person : what == 1 ? one.minute : what == 2 ? which(v) : last(v);
    }

    int person(int p, int what) {
        needPerson(p);
        needIn(what, 0, 2);
        if (what == 0) return habits.get(p).size();
        int many = 0;
        int first = NONE;
        for (int v = 0; v < office.visits.size(); v++) {
            if (office.visits.get(v).person == p) {
                many++;
                if (first == NONE) first = v;
            }
        }
        return what == 1 ? many : first;
    }

    int price(int what) {
        needIn(what, 0, 4);
        return office.price[what];
    }

    // ---- PARTS ----

    record State(int clean, int dirty, int card, int started, int seen) {
        int in() {
            return clean + dirty;
        }

        State with(int c, int d) {
            return new State(c, d, card, started, seen);
        }

        State saying(int s) {
            return new State(clean, dirty, s, started, seen);
        }

        State seeing(int s) {
            return new State(clean, dirty, card, started, s);
        }

        State startedIn(int v) {
            return new State(clean + dirty, 0, card, v, seen);
        }

        boolean isTrue() {
            return card == 1 ? dirty == 0 : dirty > 0;
        }
    }

    /** How a world differs from the one that is. */
    static final class Twist {
        Integer fall;
        Integer see;
        int without = NONE;
        int starter = NONE;
        boolean ruled;
        int one = NONE;
        int other = NONE;
        boolean given;
    }

    final class Run {
        final List<Map<State, Long>> begin = new ArrayList<>();
        final List<Map<State, Long>> behind = new ArrayList<>();
        Map<State, Long> now = new HashMap<>();
        final long[] drunk = new long[6];
        BigInteger washed = BigInteger.ZERO;
        long looks = 0;
        final int see;

        Run(Twist t) {
            see = t.see == null ? office.see : t.see;
            int fall = t.fall == null ? office.fall : t.fall;
            now.put(new State(office.clean, office.dirty, office.card, NONE, 0), ONE);
            for (int v = 0; v < office.visits.size(); v++) {
                int p = office.visits.get(v).person;
                if (p == t.without) {
                    begin.add(null);
                    behind.add(now);
                    continue;
                }
                Map<State, Long> next = new HashMap<>();
                for (Map.Entry<State, Long> e : now.entrySet()) {
                    long f = e.getValue() * fall / 16;
                    add(next, e.getKey(), e.getValue() - f);
                    add(next, e.getKey().saying(1 - e.getKey().card), f);
                }
                if (t.given) next.keySet().removeIf(fitsNot(v));
                now = next;
                begin.add(now);
                List<Step> doing = t.ruled ? rule : habits.get(p == t.one ? t.other : p == t.other ? t.one : p);
                for (Step s : doing) step(s, v, p);
                next = new HashMap<>();
                for (Map.Entry<State, Long> e : now.entrySet()) add(next, e.getKey().seeing(0), e.getValue());
                now = next;
                if (t.starter != NONE) {
                    next = new HashMap<>();
                    for (Map.Entry<State, Long> e : now.entrySet()) {
                        State s = e.getKey();
                        if (s.in() >= t.starter) {
                            washed = washed.add(BigInteger.valueOf(s.clean).multiply(BigInteger.valueOf(e.getValue())));
                            s = s.startedIn(v);
                        }
                        add(next, s, e.getValue());
                    }
                    now = next;
                }
                behind.add(now);
            }
        }

        private java.util.function.Predicate<State> fitsNot(int v) {
            return s -> {
                for (Line l : book) {
                    if (l.visit != v) continue;
                    int is = l.kind.equals("card") ? s.card : l.kind.equals("in") ? s.in() : isWarm(s, v) ? 1 : 0;
                    if (is != l.value) return true;
                }
                return false;
            };
        }

        private void step(Step s, int v, int p) {
            Map<State, Long> next = new HashMap<>();
            for (Map.Entry<State, Long> e : now.entrySet()) {
                State a = e.getKey();
                long all = e.getValue();
                long n = 0;
                if (s.condition == null || s.condition.of(words(a, v))) n = s.by == 0 ? all : all * s.by / 16;
                add(next, a, all - n);
                switch (s.act) {
                    case "put" -> add(next, a.in() < office.held ? a.with(a.clean, a.dirty + 1) : a, n);
                    case "take" -> {
                        if (a.in() == 0) {
                            add(next, a, n);
                        } else {
                            long d = n * a.dirty / a.in();
                            drunk[p] += d;
                            add(next, a.with(a.clean, a.dirty - 1), d);
                            add(next, a.with(a.clean - 1, a.dirty), n - d);
                        }
                    }
                    case "look" -> {
                        looks += n;
                        long k = a.dirty > 0 ? n * see / 16 : 0;
                        add(next, a.seeing(1), k);
                        add(next, a, n - k);
                    }
                    case "start" -> {
                        if (a.in() > 0) {
                            washed = washed.add(BigInteger.valueOf(a.clean).multiply(BigInteger.valueOf(n)));
                            add(next, a.startedIn(v), n);
                        } else {
                            add(next, a, n);
                        }
                    }
                    case "empty" -> add(next, a.with(0, 0), n);
                    case "clean" -> add(next, a.saying(1), n);
                    case "dirty" -> add(next, a.saying(0), n);
                    default -> add(next, a.saying(1 - a.card), n);
                }
            }
            now = next;
        }

        BigInteger cost() {
            BigInteger d = BigInteger.ZERO;
            for (long one : drunk) d = d.add(BigInteger.valueOf(one));
            return d.multiply(BigInteger.valueOf(office.price[0]))
                .add(washed.multiply(BigInteger.valueOf(office.price[1])))
                .add(BigInteger.valueOf(looks).multiply(BigInteger.valueOf(office.price[2])));
        }

        long trueAtEnd() {
            long sum = 0;
            for (Map.Entry<State, Long> e : now.entrySet()) if (e.getKey().isTrue()) sum += e.getValue();
            return sum;
        }

        long left() {
            return sum(now);
        }
    }

    static void add(Map<State, Long> map, State s, long n) {
        if (n > 0) map.merge(s, n, Long::sum);
    }

    static long sum(Map<State, Long> map) {
        long sum = 0;
        for (long n : map.values()) sum += n;
        return sum;
    }

    boolean isWarm(State s, int v) {
        return s.started != NONE && office.visits.get(v).minute - office.visits.get(s.started).minute < office.warm;
    }

    Map<String, Integer> words(State s, int v) {
        Map<String, Integer> w = new HashMap<>();
        w.put("card", s.card);
        w.put("warm", isWarm(s, v) ? 1 : 0);
        w.put("in", s.in());
        w.put("room", office.held - s.in());
        w.put("minute", office.visits.get(v).minute);
        w.put("seen", s.seen);
        w.put("last", last(v));
        w.put("visit", which(v));
        return w;
    }

    Run run() {
        return new Run(new Twist());
    }

    Run given() {
        Twist t = new Twist();
        t.given = true;
        return new Run(t);
    }

    static long part(BigInteger above, BigInteger below, int part) {
        if (below.signum() == 0) return part == 0 ? 0 : 1;
        BigInteger g = above.gcd(below);
        return (part == 0 ? above : below).divide(g).longValueExact();
    }

    static long part(long above, long below, int part) {
        return part(BigInteger.valueOf(above), BigInteger.valueOf(below), part);
    }

    static long part(BigInteger above, int part) {
        return part(above, BigInteger.valueOf(ONE), part);
    }

    int states(int v) {
        needVisit(v);
        return run().behind.get(v).size();
    }

    long having(Map<State, Long> map, int v, int what) {
        long sum = 0;
        for (Map.Entry<State, Long> e : map.entrySet()) {
            State s = e.getKey();
            boolean so = switch (what) {
                case 0 -> s.dirty == 0;
                case 1 -> s.isTrue();
                case 2 -> isWarm(s, v);
                case 3 -> s.card == 1;
                case 4 -> s.in() == 0;
                default -> s.in() == office.held;
            };
            if (so) sum += e.getValue();
        }
        return sum;
    }

    long likely(int v, int what) {
        needVisit(v);
        needIn(what, 0, 5);
        return having(run().behind.get(v), v, what);
    }

    long state(int v, int clean, int dirty, int card) {
        needVisit(v);
        needIn(clean, 0, 12);
        needIn(dirty, 0, 12);
        needIn(card, 0, 1);
        long sum = 0;
        for (Map.Entry<State, Long> e : run().behind.get(v).entrySet()) {
            State s = e.getKey();
            if (s.clean == clean && s.dirty == dirty && s.card == card) sum += e.getValue();
        }
        return sum;
    }

    int likeliest(int v) {
        needVisit(v);
        Map<Integer, Long> sums = new HashMap<>();
        for (Map.Entry<State, Long> e : run().behind.get(v).entrySet()) {
            State s = e.getKey();
            sums.merge(100 * s.clean + 2 * s.dirty + s.card, e.getValue(), Long::sum);
        }
        int best = NONE;
        for (int k : sums.keySet()) {
            if (best == NONE || sums.get(k) > sums.get(best) || sums.get(k).equals(sums.get(best)) && k < best) best = k;
        }
        return best;
    }

    long mean(int v, int what, int part) {
        needVisit(v);
        needIn(what, 0, 1);
        needIn(part, 0, 1);
        long sum = 0;
        for (Map.Entry<State, Long> e : run().behind.get(v).entrySet()) {
            sum += e.getValue() * (what == 0 ? e.getKey().clean : e.getKey().dirty);
        }
        return part(sum, ONE, part);
    }

    long often(int part) {
        needIn(part, 0, 1);
        Run r = run();
        long sum = 0;
        for (int v = 0; v < office.visits.size(); v++) sum += having(r.behind.get(v), v, 1);
        return part(sum, ONE * office.visits.size(), part);
    }

    int since() {
        Run r = run();
        for (int v = 0; v < office.visits.size(); v++) {
            if (2 * having(r.behind.get(v), v, 1) < ONE) return v;
        }
        return NONE;
    }

    long drunk(int p, int part) {
        needPerson(p);
        needIn(part, 0, 1);
        return part(run().drunk[p], ONE, part);
    }

    long done(int what, int part) {
        needIn(what, 0, 1);
        needIn(part, 0, 1);
        Run r = run();
        return part(what == 0 ? r.washed : BigInteger.valueOf(r.looks), part);
    }

    long cost(int part) {
        needIn(part, 0, 1);
        return part(run().cost(), part);
    }

    long fits(int part) {
        needIn(part, 0, 1);
        return part(given().left(), ONE, part);
    }

    long given(int v, int what, int part) {
        needVisit(v);
        needIn(what, 0, 5);
        needIn(part, 0, 1);
        Map<State, Long> map = given().begin.get(v);
        return part(having(map, v, what), sum(map), part);
    }

    long take(Map<State, Long> map) {
        long sum = 0;
        for (Map.Entry<State, Long> e : map.entrySet()) {
            State s = e.getKey();
            sum += s.in() == 0 ? office.price[3] * e.getValue() : office.price[0] * (e.getValue() * s.dirty / s.in());
        }
        return sum;
    }

    long[] ways(Map<State, Long> map) {
        long all = sum(map);
        Map<State, Long> sees = new HashMap<>();
        Map<State, Long> not = new HashMap<>();
        long start = 0;
        for (Map.Entry<State, Long> e : map.entrySet()) {
            State s = e.getKey();
            long k = s.dirty > 0 ? e.getValue() * office.see / 16 : 0;
            add(sees, s, k);
            add(not, s, e.getValue() - k);
            start += e.getValue() * (s.clean * office.price[1] + office.price[4]);
            if (s.in() == 0) start += e.getValue() * office.price[3];
        }
        long own = office.price[3];
        long look = office.price[2] * all + Math.min(take(sees), own * sum(sees)) + Math.min(take(not), own * sum(not));
        return new long[] {take(map), own * all, look, start};
    }

    int best(int v) {
        needVisit(v);
        Map<State, Long> map = given().begin.get(v);
        if (map.isEmpty()) return NONE;
        long[] ways = ways(map);
        int best = 0;
        for (int i = 1; i < 4; i++) if (ways[i] < ways[best]) best = i;
        return best;
    }

    long worth(int v, int way, int part) {
        needVisit(v);
        needIn(way, 0, 3);
        needIn(part, 0, 1);
        Map<State, Long> map = given().begin.get(v);
        return part(ways(map)[way], sum(map), part);
    }

    long gain(int v, int part) {
        needVisit(v);
        needIn(part, 0, 1);
        Map<State, Long> map = given().begin.get(v);
        long[] w = ways(map);
        long less = Math.min(w[0], w[1]) - w[2];
        return part(less > 0 ? less : 0, sum(map), part);
    }

    Run without(int p) {
        Twist t = new Twist();
        t.without = p;
        return new Run(t);
    }

    static long cut(BigInteger cost) {
        return cost.shiftRight(40).longValueExact();
    }

    long without(int p, int what) {
        needPerson(p);
        needIn(what, 0, 1);
        Run r = without(p);
        return what == 0 ? r.trueAtEnd() : cut(r.cost());
    }

    int keeper() {
        int best = NONE;
        long least = 0;
        for (int p = 0; p < office.people; p++) {
            long t = without(p).trueAtEnd();
            if (best == NONE || t < least) {
                best = p;
                least = t;
            }
        }
        return best;
    }

    int spoiler() {
        int best = NONE;
        BigInteger least = null;
        for (int p = 0; p < office.people; p++) {
            BigInteger c = without(p).cost();
            if (best == NONE || c.compareTo(least) < 0) {
                best = p;
                least = c;
            }
        }
        return best;
    }

    long falling(int q) {
        needIn(q, 0, 16);
        Twist t = new Twist();
        t.fall = q;
        return new Run(t).trueAtEnd();
    }

    long seeing(int k, int part) {
        needIn(k, 0, 16);
        needIn(part, 0, 1);
        Twist t = new Twist();
        t.see = k;
        return part(new Run(t).cost(), part);
    }

    BigInteger filled(int k) {
        Twist t = new Twist();
        t.starter = k;
        return new Run(t).cost();
    }

    long filled(int k, int part) {
        needIn(k, 1, 12);
        needIn(part, 0, 1);
        return part(filled(k), part);
    }

    int fill() {
        int best = 1;
        for (int k = 2; k <= office.held; k++) if (filled(k).compareTo(filled(best)) < 0) best = k;
        return best;
    }

    long ruled(int what) {
        needIn(what, 0, 1);
        Twist t = new Twist();
        t.ruled = true;
        Run r = new Run(t);
        return what == 0 ? r.trueAtEnd() : cut(r.cost());
    }

    BigInteger swapped(int a, int b) {
        Twist t = new Twist();
        t.one = a;
        t.other = b;
        return new Run(t).cost();
    }

    long swapped(int a, int b, int part) {
        needPerson(a);
        needPerson(b);
        need(a != b);
        needIn(part, 0, 1);
        return part(swapped(a, b), part);
    }

    int swap() {
        BigInteger least = run().cost();
        int best = NONE;
        for (int a = 0; a < office.people; a++) {
            for (int b = a + 1; b < office.people; b++) {
                BigInteger c = swapped(a, b);
                if (c.compareTo(least) < 0) {
                    least = c;
                    best = 10 * a + b;
                }
            }
        }
        return best;
    }

    // ---- DAYS ----

    final class OneDay {
        private long seed;
        State s = new State(office.clean, office.dirty, office.card, NONE, 0);
        int drunk = 0;
        int washed = 0;
        int looks = 0;

        OneDay(int seed, int visits) {
            this.seed = seed & 0xffffffffL;
            for (int v = 0; v < visits; v++) pass(v);
        }

        private int draw(int by) {
            seed = (seed * 1103515245L + 12345L) % (1L << 32);
            return (int) (seed / 65536 % 32768 % by);
        }

        private void pass(int v) {
            s = s.seeing(0);
            if (draw(16) < office.fall) s = s.saying(1 - s.card);
            for (Step step : habits.get(office.visits.get(v).person)) {
                if (step.condition != null && !step.condition.of(words(s, v))) continue;
                if (step.by > 0 && draw(16) >= step.by) continue;
                switch (step.act) {
                    case "put" -> s = s.in() < office.held ? s.with(s.clean, s.dirty + 1) : s;
                    case "take" -> {
                        if (s.in() == 0) break;
                        if (draw(s.in()) < s.dirty) {
                            drunk++;
                            s = s.with(s.clean, s.dirty - 1);
                        } else {
                            s = s.with(s.clean - 1, s.dirty);
                        }
                    }
                    case "look" -> {
                        looks++;
                        if (s.dirty > 0 && draw(16) < office.see) s = s.seeing(1);
                    }
                    case "start" -> {
                        if (s.in() == 0) break;
                        washed += s.clean;
                        s = s.startedIn(v);
                    }
                    case "empty" -> s = s.with(0, 0);
                    case "clean" -> s = s.saying(1);
                    case "dirty" -> s = s.saying(0);
                    default -> s = s.saying(1 - s.card);
                }
            }
        }
    }

    int day(int seed, int v, int what) {
        needVisit(v);
        needIn(what, 0, 6);
        OneDay d = new OneDay(seed, v + 1);
        return new int[] {d.s.clean, d.s.dirty, d.s.card, d.drunk, d.washed, d.looks, d.s.started}[what];
    }

    int span(int seed, int many, int what) {
        needIn(many, 1, 40);
        needIn(what, 0, 2);
        int trues = 0;
        int sum = 0;
        int most = 0;
        for (int i = 0; i < many; i++) {
            OneDay d = new OneDay(seed + i, office.visits.size());
            if (d.s.isTrue()) trues++;
            sum += d.drunk;
            most = Math.max(most, d.drunk);
        }
        return what == 0 ? trues : what == 1 ? sum : most;
    }

    // ---- changes ----

    private int place(List<Visit> visits, Visit one) {
        int i = visits.size();
        while (i > 0 && visits.get(i - 1).minute > one.minute) i--;
        visits.add(i, one);
        return i;
    }

    private void change(List<Visit> to) {
        past.add(office.visits);
        office.visits = to;
    }

    int come(int p, int minute) {
        needPerson(p);
        needIn(minute, 0, 480);
        if (office.visits.size() == 24 || past.size() == 20) return -1;
        List<Visit> to = new ArrayList<>(office.visits);
        int i = place(to, new Visit(p, minute));
        change(to);
        return i;
    }

    int skip(int v) {
        needVisit(v);
        if (past.size() == 20) return -1;
        List<Visit> to = new ArrayList<>(office.visits);
        to.remove(v);
        change(to);
        return to.size();
    }

    int shift(int v, int minute) {
        needVisit(v);
        needIn(minute, 0, 480);
        if (past.size() == 20) return -1;
        List<Visit> to = new ArrayList<>(office.visits);
        Visit one = to.remove(v);
        int i = place(to, new Visit(one.person, minute));
        change(to);
        return i;
    }

    int teach(int p, int other) {
        needPerson(p);
        needPerson(other);
        habits.set(p, new ArrayList<>(habits.get(other)));
        return habits.get(p).size();
    }

    int undo() {
        if (past.isEmpty()) return -1;
        office.visits = past.remove(past.size() - 1);
        return past.size();
    }

    int image() {
        if (images.size() == 3) return -1;
        List<List<Visit>> all = new ArrayList<>(past);
        all.add(office.visits);
        images.add(all);
        return images.size();
    }

    int restore() {
        if (images.isEmpty()) return -1;
        past = images.remove(images.size() - 1);
        office.visits = past.remove(past.size() - 1);
        return images.size();
    }

    int status(int what) {
        return what == 0 ? missing : what == 1 ? wrong : NONE;
    }

    int count(int what) {
        return what == 0 ? images.size() : what == 1 ? tape.size() : what == 2 ? past.size() : NONE;
    }
}
