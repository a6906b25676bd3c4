/** What is refused, one below and one above every bound and at the ends of all numbers, and that it leaves everything. */
final class RefusalEdges {
    private RefusalEdges() {}

    /** Something of all: a RULE, a BOOK, a change ahead of an IMAGE, one behind it, and a text on the TAPE. */
    static CardCups house() {
        CardCups x = emptyTape();
        Check.feed(x, "take by 3;look if in > 1; put by 7;");
        return x;
    }

    static CardCups emptyTape() {
        CardCups x = Check.made("machine 5;cups 2 1;card 1;fall 3;see 9;warm 25;cost 9 2 1 3 2;person;person;person;"
            + "comes 0 10;comes 1 30;comes 0 60;comes 2 90;",
            "put;dirty by 9 if card=1;", "look;start if seen=1;take by 8;", "take;turn by 3;");
        Check.rule(x, "take;put by 5;look;");
        Check.book(x, "1 card 0;2 in 3;");
        x.come(1, 45);
        x.image();
        x.shift(0, 50);
        return x;
    }

    private static CardCups nobody() {
        return new CardCups();
    }

    /** 20 changes. */
    private static CardCups changedOften() {
        CardCups x = house();
        for (int i = 0; i < 18; i++) x.shift(0, i);
        return x;
    }

    private static final int VISITS = 5;
    private static final int PEOPLE = 3;

    private static int[] outside(int low, int high) {
        return new int[] {low - 1, high + 1, Integer.MIN_VALUE, Integer.MAX_VALUE};
    }

    static void all() {
        Doc.section("Promise 4");
        Doc.says("NoSuchElementException: no such PERSON, VISIT (so below, ahead of others; the TAPE stays).");
        for (int v : outside(0, VISITS - 1)) noVisit(RefusalEdges::house, v);
        for (int v : outside(0, -1)) noVisit(RefusalEdges::nobody, v);
        for (int p : outside(0, PEOPLE - 1)) noPerson(RefusalEdges::house, p);
        for (int p : outside(0, -1)) noPerson(RefusalEdges::nobody, p);
        noVisit(RefusalEdges::changedOften, VISITS);
        noPerson(RefusalEdges::changedOften, PEOPLE);
        Doc.section("Promise 8");
        Doc.says("IllegalArgumentException: another what (so below).");
        whats(RefusalEdges::house);
        Doc.section("Promise 16");
        Doc.says("above (part 0), below (part 1), in least terms (so below).");
        for (int part : outside(0, 1)) noPart(part);
        numbers();
        texts();
    }

    private static void noVisit(Twins.Maker house, int v) {
        Twins.missing("visit " + v, house, x -> x.visit(v, 0));
        Twins.missing("visit, and what " + v, house, x -> x.visit(v, 4));
        Twins.missing("states " + v, house, x -> x.states(v));
        Twins.missing("likely " + v, house, x -> x.likely(v, 0));
        Twins.missing("likely, and what " + v, house, x -> x.likely(v, 6));
        Twins.missing("state " + v, house, x -> x.state(v, 0, 0, 0));
        Twins.missing("state, and more " + v, house, x -> x.state(v, 13, -1, 2));
        Twins.missing("likeliest " + v, house, x -> x.likeliest(v));
        Twins.missing("mean " + v, house, x -> x.mean(v, 0, 0));
        Twins.missing("mean, and what " + v, house, x -> x.mean(v, 2, 2));
        Twins.missing("given " + v, house, x -> x.given(v, 0, 0));
        Twins.missing("given, and what " + v, house, x -> x.given(v, 6, 2));
        Twins.missing("best " + v, house, x -> x.best(v));
        Twins.missing("worth " + v, house, x -> x.worth(v, 0, 0));
        Twins.missing("worth, and way " + v, house, x -> x.worth(v, 4, 2));
        Twins.missing("gain " + v, house, x -> x.gain(v, 0));
        Twins.missing("gain, and part " + v, house, x -> x.gain(v, 2));
        Twins.missing("day " + v, house, x -> x.day(1, v, 0));
        Twins.missing("day, and what " + v, house, x -> x.day(1, v, 7));
        Twins.missing("skip " + v, house, x -> x.skip(v));
        Twins.missing("shift " + v, house, x -> x.shift(v, 5));
        Twins.missing("shift, and MINUTE " + v, house, x -> x.shift(v, 481));
    }

    private static void noPerson(Twins.Maker house, int p) {
        Twins.missing("habit " + p, house, x -> x.habit(p, 0));
        Twins.missing("habit, and n " + p, house, x -> x.habit(p, 601));
        Twins.missing("person " + p, house, x -> x.person(p, 0));
        Twins.missing("person, and what " + p, house, x -> x.person(p, 3));
        Twins.missing("drunk " + p, house, x -> x.drunk(p, 0));
        Twins.missing("drunk, and part " + p, house, x -> x.drunk(p, 2));
        Twins.missing("without " + p, house, x -> x.without(p, 0));
        Twins.missing("without, and what " + p, house, x -> x.without(p, 2));
        Twins.missing("swapped " + p, house, x -> x.swapped(p, 0, 0));
        Twins.missing("swapped with " + p, house, x -> x.swapped(0, p, 0));
        Twins.missing("swapped with himself, and part " + p, house, x -> x.swapped(p, p, 2));
        Twins.missing("come " + p, house, x -> x.come(p, 5));
        Twins.missing("come, and MINUTE " + p, house, x -> x.come(p, 481));
        Twins.missing("teach " + p, house, x -> x.teach(p, 0));
        Twins.missing("teach by " + p, house, x -> x.teach(0, p));
        Twins.missing("teach himself " + p, house, x -> x.teach(p, p));
    }

    private static void whats(Twins.Maker house) {
        for (int w : outside(0, 9)) Twins.illegal("told " + w, house, x -> x.told(w));
        for (int w : outside(0, 3)) Twins.illegal("visit " + w, house, x -> x.visit(0, w));
        for (int w : outside(0, 2)) Twins.illegal("person " + w, house, x -> x.person(0, w));
        for (int w : outside(0, 4)) Twins.illegal("price " + w, house, x -> x.price(w));
        for (int w : outside(0, 5)) Twins.illegal("likely " + w, house, x -> x.likely(0, w));
        for (int w : outside(0, 1)) Twins.illegal("mean " + w, house, x -> x.mean(0, w, 0));
        for (int w : outside(0, 1)) Twins.illegal("done " + w, house, x -> x.done(w, 0));
        for (int w : outside(0, 5)) Twins.illegal("given " + w, house, x -> x.given(0, w, 0));
        for (int w : outside(0, 3)) Twins.illegal("worth " + w, house, x -> x.worth(0, w, 0));
        for (int w : outside(0, 1)) Twins.illegal("without " + w, house, x -> x.without(0, w));
        for (int w : outside(0, 1)) Twins.illegal("ruled " + w, house, x -> x.ruled(w));
        for (int w : outside(0, 6)) Twins.illegal("day " + w, house, x -> x.day(1, 0, w));
        for (int w : outside(0, 2)) Twins.illegal("span " + w, house, x -> x.span(1, 1, w));
    }

    private static void noPart(int part) {
        Twins.Maker house = RefusalEdges::house;
        Twins.illegal("mean " + part, house, x -> x.mean(0, 0, part));
        Twins.illegal("often " + part, house, x -> x.often(part));
        Twins.illegal("drunk " + part, house, x -> x.drunk(0, part));
        Twins.illegal("done " + part, house, x -> x.done(0, part));
        Twins.illegal("cost " + part, house, x -> x.cost(part));
        Twins.illegal("fits " + part, house, x -> x.fits(part));
        Twins.illegal("given " + part, house, x -> x.given(0, 0, part));
        Twins.illegal("worth " + part, house, x -> x.worth(0, 0, part));
        Twins.illegal("gain " + part, house, x -> x.gain(0, part));
        Twins.illegal("seeing " + part, house, x -> x.seeing(0, part));
        Twins.illegal("filled " + part, house, x -> x.filled(1, part));
        Twins.illegal("swapped " + part, house, x -> x.swapped(0, 1, part));
    }

    private static void numbers() {
        Twins.Maker house = RefusalEdges::house;
        Doc.section("Promise 14");
        Doc.says("(0 to 12 both), the card so (0, 1).");
        for (int n : outside(0, 12)) {
            Twins.illegal("clean ones " + n, house, x -> x.state(0, n, 0, 0));
            Twins.illegal("dirty ones " + n, house, x -> x.state(0, 0, n, 0));
        }
        for (int n : outside(0, 1)) Twins.illegal("card " + n, house, x -> x.state(0, 0, 0, n));
        Doc.section("Promise 30");
        Doc.says("With another Q of falling (0 to 16):");
        for (int n : outside(0, 16)) Twins.illegal("falling " + n, house, x -> x.falling(n));
        Doc.section("Promise 31");
        Doc.says("With another K (0 to 16):");
        for (int n : outside(0, 16)) Twins.illegal("seeing " + n, house, x -> x.seeing(n, 0));
        Doc.section("Promise 32");
        Doc.says("With a STARTER by k (1 to 12):");
        for (int n : outside(1, 12)) Twins.illegal("filled " + n, house, x -> x.filled(n, 0));
        Doc.section("Promise 35");
        Doc.says("IllegalArgumentException: one PERSON.");
        for (int p = 0; p < PEOPLE; p++) {
            int one = p;
            Twins.illegal("swapped " + p, house, x -> x.swapped(one, one, 0));
        }
        Doc.section("Promise 38");
        Doc.says("Of so many SEEDS (1 to 40;");
        for (int n : outside(1, 40)) Twins.illegal("span " + n, house, x -> x.span(1, n, 0));
        Doc.section("Promise 39");
        Doc.says("(exceptions ahead of that; so below). IllegalArgumentException: MINUTE.");
        for (int n : outside(0, 480)) {
            Twins.illegal("come " + n, house, x -> x.come(0, n));
            Twins.illegal("come, ahead of 20 changes " + n, RefusalEdges::changedOften, x -> x.come(0, n));
        }
        Doc.section("Promise 41");
        for (int n : outside(0, 480)) {
            Twins.illegal("shift " + n, house, x -> x.shift(0, n));
            Twins.illegal("shift, ahead of 20 changes " + n, RefusalEdges::changedOften, x -> x.shift(0, n));
        }
    }

    /** The house with so many bytes on the TAPE, 20 a feed. */
    private static Twins.Maker withTape(int bytes) {
        return () -> {
            CardCups x = emptyTape();
            Check.feed(x, "take by 3;" + Check.times(bytes - 10, " "));
            return x;
        };
    }

    private static void texts() {
        Doc.section("Promise 3");
        Doc.says("IllegalArgumentException: n is not 0 to the TAPE's bytes (it stays).");
        for (int n : outside(0, 40)) Twins.illegal("office " + n, RefusalEdges::house, x -> x.office(n));
        for (int n : outside(0, 0)) Twins.illegal("office of an empty TAPE " + n, RefusalEdges::emptyTape, x -> x.office(n));
        for (int n : outside(0, 600)) Twins.illegal("office of a full TAPE " + n, withTape(600), x -> x.office(n));
        Doc.section("Promise 4");
        Doc.says("Likewise the HABIT of a PERSON (n to 150):");
        for (int n : outside(0, 40)) Twins.illegal("habit " + n, RefusalEdges::house, x -> x.habit(0, n));
        for (int n : outside(0, 0)) Twins.illegal("habit of an empty TAPE " + n, RefusalEdges::emptyTape, x -> x.habit(0, n));
        for (int n : outside(0, 140)) Twins.illegal("habit of 140 " + n, withTape(140), x -> x.habit(0, n));
        for (int n : outside(0, 150)) Twins.illegal("habit of 160 " + n, withTape(160), x -> x.habit(0, n));
        Doc.section("Promise 5");
        Doc.says("Likewise the RULE (n to 150):");
        for (int n : outside(0, 40)) Twins.illegal("rule " + n, RefusalEdges::house, x -> x.rule(n));
        for (int n : outside(0, 0)) Twins.illegal("rule of an empty TAPE " + n, RefusalEdges::emptyTape, x -> x.rule(n));
        for (int n : outside(0, 140)) Twins.illegal("rule of 140 " + n, withTape(140), x -> x.rule(n));
        for (int n : outside(0, 150)) Twins.illegal("rule of 160 " + n, withTape(160), x -> x.rule(n));
        Doc.section("Promise 6");
        Doc.says("Likewise the BOOK (n to 150):");
        for (int n : outside(0, 40)) Twins.illegal("book " + n, RefusalEdges::house, x -> x.book(n));
        for (int n : outside(0, 0)) Twins.illegal("book of an empty TAPE " + n, RefusalEdges::emptyTape, x -> x.book(n));
        for (int n : outside(0, 140)) Twins.illegal("book of 140 " + n, withTape(140), x -> x.book(n));
        for (int n : outside(0, 150)) Twins.illegal("book of 160 " + n, withTape(160), x -> x.book(n));
    }
}
