/** What it is: one look at each thing that it does, and an object that is used for 512 calls. */
final class WholeEdges {
    private static final long ONE = Check.ONE;
    private static final int MOST_CALLS = 512;

    private WholeEdges() {}

    static void all() {
        Doc.section("What it is");
        told();
        reckoned();
        seen();
        otherwise();
        changed();
        Doc.says("An object is used for at most 512 calls after it has been made; what later calls answer is free.");
        fedToTheEnd();
        refusedToTheEnd();
        readToTheEnd();
        changedToTheEnd();
        askedToTheEnd();
        severalAtOnce();
    }

    /** PERSON 0 takes one if the card says clean and puts one in, PERSON 1 looks and starts. */
    private static CardCups office() {
        return Check.made("machine 4;cups 1 1;card 1;person;person;comes 0 0;comes 1 10;comes 0 20;",
            "take if card=1;put;", "look;start by 8 if seen=1 or in>3;clean if warm=1;");
    }

    private static void told() {
        Doc.says("Clean, or not: an office told as a text,");
        CardCups x = office();
        Check.due("PEOPLE", x.told(7), 2);
        Doc.says("a machine by cups,");
        Check.due("cups", 100 * x.told(0) + 10 * x.told(1) + x.told(2), 411);
        Doc.says("a card,");
        Check.due("the card", x.told(3), 1);
        Doc.says("who comes when,");
        Check.due("who", x.visit(1, 0), 1);
        Check.due("when", x.visit(1, 1), 10);
        Doc.says("what it costs;");
        Check.due("D", x.price(0), 9);
        Doc.says("what each does as a text of its own,");
        Check.due("STEPS", 10 * x.person(0, 0) + x.person(1, 0), 23);
        Doc.says("by the card, warmth, fill, by odds;");
        String[] conditions = {"if card=1", "if warm=0", "if in=2", "by 16"};
        for (String c : conditions) {
            Check.habit(x, 0, "turn " + c + ";");
            Check.due("turned " + c, x.likely(0, 3), 0);
        }
    }

    private static void reckoned() {
        Doc.says("how likely which state is behind each visit, in whole parts;");
        CardCups x = office();
        for (int v = 0; v < 3; v++) {
            long all = 0;
            for (int n = 0; n <= 4; n++) {
                for (int dirty = 0; dirty <= n; dirty++) {
                    all += x.state(v, n - dirty, dirty, 0) + x.state(v, n - dirty, dirty, 1);
                }
            }
            Check.due("all PARTS behind " + v, all, ONE);
        }
        // 12 of 16 see it, 8 of 16 of them start it; nobody else
        CardCups y = office();
        Check.due("two dirty ones", y.state(0, 0, 2, 1), ONE / 2);
        Check.due("one", y.state(0, 1, 1, 1), ONE / 2);
        Check.due("started", y.state(1, 2, 0, 1), ONE / 8 * 3);
        Check.due("STATES", y.states(1), 3);
        Doc.says("whether the card is true, how often,");
        Check.due("TRUE", y.likely(1, 1), ONE / 8 * 3);
        // behind the last VISIT a dirty one is in it again, and the card says clean
        Check.due("how often", y.often(0) * 1000 + y.often(1), 1008);
        Doc.says("cups drunk dirty, washed twice;");
        // 1/2; then of 5/16 with one of two 1/2, of 5/16 with two all
        Check.due("DRUNK", y.drunk(0, 0) * 1000 + y.drunk(0, 1), 31032);
        Check.due("WASHED", y.done(0, 0) * 1000 + y.done(0, 1), 3016);
        Check.due("COST", y.cost(0) * 1000 + y.cost(1), (31 * 9 + 6 + 32) * 1000 + 32);
    }

    private static void seen() {
        Doc.says("how likely by what was seen,");
        CardCups x = office();
        Check.book(x, "2 warm 0;");
        Check.due("fits", x.fits(0) * 1000 + x.fits(1), 5008);
        Check.due("no dirty one", x.given(2, 0, 0), 0);
        Doc.says("what one ought to do then: take, wash one's own, look, start;");
        // of eighths: half have one dirty one of two, half two
        Check.due("take", x.worth(2, 0, 0) * 1000 + x.worth(2, 0, 1), 27004);
        Check.due("wash one's own", x.worth(2, 1, 0) * 1000 + x.worth(2, 1, 1), 3001);
        Check.due("look", x.worth(2, 2, 0) * 1000 + x.worth(2, 2, 1), 4001);
        Check.due("start", x.worth(2, 3, 0) * 1000 + x.worth(2, 3, 1), 5002);
        Check.due("best", x.best(2), 3);
    }

    private static void otherwise() {
        Doc.says("who keeps it going,");
        CardCups x = office();
        Check.habit(x, 0, "put;");
        // PERSON 0 alone makes it dirty; without him it is started for good by 3/8 of all
        Check.due("without 0", x.without(0, 0), ONE / 8 * 3);
        Check.due("without 1", x.without(1, 0), 0);
        Check.due("keeper", x.keeper(), 1);
        Doc.says("other odds,");
        Check.due("falls at every one, and says dirty in the end", x.falling(16), ONE);
        Check.due("nobody sees", x.seeing(0, 0), 1);
        Doc.says("a starter by fill,");
        // one clean one is washed again, then three, and three; and one look
        Check.due("started behind each", x.filled(1, 0) * 1000 + x.filled(1, 1), 8001);
        Doc.says("one rule for all,");
        Check.rule(x, "dirty;");
        Check.due("a dirty one, and the card says so", x.ruled(0), ONE);
        Doc.says("habits changed;");
        // two looks; washed again: 3/8 of 1, then 9/64 of 2 and 15/64 of 1
        Check.due("each other's HABIT", x.swapped(0, 1, 0) * 1000 + x.swapped(0, 1, 1), 185064);
        Check.due("the STEPS of both", x.teach(1, 0), 1);
        Check.due("there is room for two alone", x.state(2, 1, 3, 1), ONE);
        Doc.says("days by seeds;");
        Check.due("a DAY", x.day(3, 2, 1), 3);
    }

    private static void changed() {
        Doc.says("visits told, left out, moved, undone;");
        CardCups x = office();
        Check.due("told", x.come(1, 10), 2);
        Check.due("left out", x.skip(0), 3);
        Check.due("moved", x.shift(0, 480), 2);
        Check.due("undone", x.undo(), 2);
        Doc.says("images;");
        Check.due("an IMAGE", x.image(), 1);
        Check.due("undone", x.undo(), 1);
        Check.due("as in the IMAGE", x.restore(), 0);
        Check.due("changes", x.count(2), 2);
        Doc.says("refusals, counted by reason.");
        Check.missing("a VISIT", () -> x.best(3));
        Check.illegal("a what", () -> x.told(10));
        Check.illegal("a part", () -> x.cost(2));
        Check.due("counted", 10 * x.status(0) + x.status(1), 12);
    }

    // ---- 512 calls ----

    private static void fedToTheEnd() {
        CardCups x = new CardCups();
        for (int i = 1; i < MOST_CALLS; i++) Check.due("feed " + i, x.feed(i, i, i, i, i), i <= 30 ? 20 * i : -1);
        Check.due("bytes, by the last call", x.count(1), 600);
    }

    private static void refusedToTheEnd() {
        CardCups x = new CardCups();
        CardCups y = new CardCups();
        for (int i = 1; i < MOST_CALLS; i++) {
            Check.illegal("refused " + i, () -> x.told(-1));
            Check.missing("refused " + i, () -> y.visit(0, 0));
        }
        Check.due("refused, by the last call", x.status(1), MOST_CALLS - 1);
        Check.due("missed, by the last call", y.status(0), MOST_CALLS - 1);
    }

    private static void readToTheEnd() {
        CardCups x = new CardCups();
        // "person;comes 0 0;" and blanks
        for (int i = 2; i <= 254; i += 2) {
            Check.due("feed", x.feed(0x70657273, 0x6f6e3b63, 0x6f6d6573, 0x20302030, 0x3b202020), 20);
            Check.due("an OFFICE anew " + i, x.office(20), 1);
        }
        // "turn;" and blanks
        for (int i = 256; i <= 508; i += 2) {
            Check.due("feed", x.feed(0x7475726e, 0x3b202020, 0x20202020, 0x20202020, 0x20202020), 20);
            Check.due("a HABIT anew " + i, x.habit(0, 20), 1);
        }
        x.feed(0x7475726e, 0x3b747572, 0x6e3b2020, 0, 0);
        Check.due("of two STEPS", x.habit(0, 12), 2);
        x.feed(0x7475726e, 0x3b202020, 0, 0, 0);
        Check.due("the 512th call reads", x.habit(0, 5), 1);
    }

    private static void changedToTheEnd() {
        CardCups x = new CardCups();
        x.feed(0x70657273, 0x6f6e3b20, 0x20202020, 0x20202020, 0x20202020);
        x.office(20);
        for (int i = 2; i < MOST_CALLS - 1; i += 3) {
            Check.due("come " + i, x.come(0, i % 480), 0);
            Check.due("alone " + i, x.visit(0, 1), i % 480);
            Check.due("undo " + i, x.undo(), 0);
        }
        Check.due("VISITS, by the last call", x.told(8), 0);
    }

    /** What is asked again and again is answered alike. */
    private static void askedToTheEnd() {
        CardCups x = RefusalEdges.emptyTape();
        CardCups y = RefusalEdges.emptyTape();
        long due = y.cost(0);
        // emptyTape() makes some fifty calls
        for (int i = 60; i < MOST_CALLS; i += 4) {
            Check.due("cost " + i, x.cost(0), due);
            Check.due("in a row " + i, x.filled(1 + i % 12, 1) > 0 && x.span(i, 3, 0) <= 3 && x.seeing(i % 17, 1) > 0 ? 1 : 0, 1);
        }
        Check.due("in the end", x.cost(0), due);
    }

    /** What one object is told, the other one does not know. */
    private static void severalAtOnce() {
        CardCups x = new CardCups();
        CardCups y = new CardCups();
        Check.feed(x, "card 1;person;comes 0 0;");
        Check.feed(y, "cups 0 3;person;");
        Check.due("the one's TAPE", x.count(1), 40);
        Check.due("the other's TAPE", y.count(1), 20);
        Check.due("the one", x.office(24), 1);
        Check.due("the other", y.office(16), 0);
        Check.habit(x, 0, "turn;");
        Check.due("the one's STEPS", x.person(0, 0), 1);
        Check.due("the other's STEPS", y.person(0, 0), 0);
        Check.due("the one comes", x.come(0, 7), 1);
        Check.due("the other has no change", y.undo(), -1);
        Check.due("the other comes", y.come(0, 7), 0);
        Check.due("the one is dirty, then clean again", x.likely(1, 3) - x.likely(0, 3), ONE);
        Check.due("the other says dirty, and is", y.likely(0, 1), ONE);
        Check.illegal("the one", () -> x.told(-1));
        Check.due("the other was not refused", y.status(1), 0);
    }
}
