import java.util.ArrayList;
import java.util.List;

/** Terms 2 and 3, promises 1 and 8 to 38: PARTS where they are cut, none and all of them, ties, and what DAYS DRAW. */
final class OddsEdges {
    private static final long ONE = Check.ONE;
    /** ONE by 3 leaves 1, so that thirds are cut: of 2 by 3, and what is left. */
    private static final long TWO_THIRDS = 733007751850L;
    private static final long THIRD = 366503875926L;

    private OddsEdges() {}

    static void all() {
        Doc.section("Terms");
        atFirst();
        falls();
        stepByStep();
        put();
        take();
        look();
        start();
        otherActs();
        warm();
        nothingSeen();
        cardTrue();
        counted();
        givenBook();
        ways();
        bestAndGain();
        whatIf();
        starter();
        ruledAndSwapped();
        draws();
        promises();
    }

    // ---- what the checks share ----

    /** One PERSON, one VISIT in MINUTE 0. */
    private static CardCups once(String told, String habit) {
        return Check.made(told + "person;comes 0 0;", habit);
    }

    private static void fraction(String what, long above, long below, long dueAbove, long dueBelow) {
        Check.due(what + ", above", above, dueAbove);
        Check.due(what + ", below", below, dueBelow);
    }

    /** All PARTS are in one STATE behind a HABIT, and in a DAY as well. */
    private static void act(String told, String habit, int clean, int dirty, int card) {
        CardCups x = once(told, habit);
        Check.due(told + habit, x.state(0, clean, dirty, card), ONE);
        Check.due("in a DAY: " + told + habit, x.day(1, 0, 0) * 10000 + x.day(1, 0, 1) * 10 + x.day(1, 0, 2),
            clean * 10000 + dirty * 10 + card);
    }

    /**
     * Three VISITS in MINUTE 0 behind which all but one PART are started: as VISIT 2 begins, ONE less 65,536 were
     * started in VISIT 0, 65,535 in VISIT 1, and one PART never. PERSON 1 comes as VISIT 2.
     */
    private static CardCups onePart(String told, String habit) {
        return Check.made(told + "person;person;comes 0 0;comes 0 0;comes 1 0;", Check.times(6, "start by 15 if warm=0;"), habit);
    }

    // ---- terms 2 ----

    private static void atFirst() {
        Doc.says("A STATE: how many clean and dirty ones are in it, what the card says, in which VISIT it was started last (none).");
        CardCups x = Check.made("cups 1 0;person;" + Check.times(24, "comes 0 0;"), "start by 8;");
        // unlike by the VISIT in which it was started alone: 0 to v, or none
        for (int v = 0; v < 24; v++) Check.due("STATES behind " + v, x.states(v), v + 2);
        Check.due("all alike else", x.state(23, 1, 0, 0), ONE);
        CardCups y = Check.made("machine 3;cups 1 1;person;comes 0 0;comes 0 1;", "turn by 8 if visit=1;take by 8 if visit=1;start;");
        Check.due("started in the last one", y.states(0), 4);
        Check.due("started again", y.states(1), 4);
        Doc.says("All there is are 2 to the 40 PARTS (ONE): at first all are of the STATE as told (not started).");
        Check.due("all", once("machine 12;cups 5 7;card 1;", "").state(0, 5, 7, 1), 1099511627776L);
        Check.due("all of an OFFICE without CLAUSES", once("", "").state(0, 0, 0, 0), 1099511627776L);
        Check.due("not started", once("cups 1 1;", "").likely(0, 2), 0);
        Check.due("not started in a DAY", once("cups 1 1;", "").day(7, 0, 6), -1);
        CardCups z = onePart("cups 1 0;", "");
        Check.due("all but one PART", z.likely(2, 2), ONE - 1);
        Check.due("of three STATES", z.states(2), 3);
        Check.due("all together", z.state(2, 1, 0, 0), ONE);
    }

    private static void falls() {
        Doc.says("In a VISIT: the card falls: of each STATE's PARTS the PARTS times Q by 16 (cut) have the card turned.");
        for (int q = 0; q <= 16; q++) {
            Check.due("from dirty by " + q, once("fall " + q + ";", "").likely(0, 3), ONE / 16 * q);
            Check.due("from clean by " + q, once("card 1;fall " + q + ";", "").likely(0, 3), ONE / 16 * (16 - q));
        }
        // turned is not seen, nor is it another STATE
        Check.due("STATES of one card turned and back", Check.made("card 1;fall 8;person;comes 0 0;comes 0 0;").states(1), 2);
        Check.due("nothing seen", once("card 1;fall 16;cups 0 1;", "turn if seen=1;").likely(0, 3), 0);
        // ahead of the STEPS, also of VISITS in which nothing is done
        act("fall 16;", "dirty if card=0;", 0, 0, 1);
        act("fall 16;card 1;", "empty if card=1;", 0, 0, 0);
        CardCups x = Check.made("fall 16;person;person;comes 0 0;comes 1 0;comes 0 0;", "");
        Check.due("three times", x.likely(0, 3) + x.likely(1, 3) + x.likely(2, 3), 2 * ONE);
        Check.due("clean in the end", x.likely(2, 3), ONE);
        // each STATE's PARTS are cut: 733,007,751,850 and 366,503,875,926, by 1 and by 15 of 16
        CardCups y = Check.made("cups 1 2;fall 1;person;comes 0 0;comes 0 0;", "clean if visit=1;take if visit=1;");
        Check.due("two thirds by 1", y.state(1, 1, 1, 0), 45812984490L);
        Check.due("those that stay", y.state(1, 1, 1, 1), TWO_THIRDS - 45812984490L);
        Check.due("a third by 1", y.state(1, 0, 2, 0), 22906492245L);
        CardCups z = Check.made("cups 1 2;fall 15;person;comes 0 0;comes 0 0;", "clean if visit=1;take if visit=1;");
        Check.due("two thirds by 15", z.state(1, 1, 1, 0), 687194767359L);
        Check.due("a third by 15", z.state(1, 0, 2, 0), THIRD - 22906492246L);
        // unlike STATES are cut apart, be it by when they were started: one PART never falls but by 16
        CardCups w = onePart("cups 1 0;", "");
        w.come(1, 0);
        Check.due("one PART, told by 15", onePart("cups 1 0;", "turn by 15;").likely(2, 3), (ONE - 65536) / 16 * 15 + 61439);
        Check.due("by 16 in each of four VISITS", w.falling(16), 0);
    }

    private static void stepByStep() {
        Doc.says("Then STEP by STEP: of each STATE's PARTS (PARTS of one STATE, in which as much was seen, are summed first)"
            + " by which its C is so (always without), the PARTS times Q (of \"by\"; 16 without) by 16 (cut) do it, the others do not.");
        for (int q = 1; q <= 16; q++) Check.due("by " + q, once("", "turn by " + q + ";").likely(0, 3), ONE / 16 * q);
        Check.due("without", once("", "turn;").likely(0, 3), ONE);
        Check.due("so", once("", "turn if 1=1;").likely(0, 3), ONE);
        Check.due("not so", once("", "turn if 1=2;").likely(0, 3), 0);
        // the one PART: 15 of 16 of it are none, 16 of 16 are it
        Check.due("one PART by 15", onePart("cups 1 0;", "turn by 15 if warm=0;").likely(2, 3), 0);
        Check.due("one PART by 16", onePart("cups 1 0;", "turn by 16 if warm=0;").likely(2, 3), 1);
        Check.due("one PART without", onePart("cups 1 0;", "turn if warm=0;").likely(2, 3), 1);
        Check.due("all but one PART", onePart("cups 1 0;", "turn if warm=1;").likely(2, 3), ONE - 1);
        Check.due("halves, cut apart", onePart("cups 1 0;", "turn by 8 if warm=1;").likely(2, 3), ONE / 2 - 1);
        // those that saw and those that did not are cut apart: 15 of 16, 1 of 16, 15 of 16 of each
        CardCups x = Check.made("cups 1 2;see 16;person;comes 0 0;", "take;look if in=2;turn by 1;");
        Check.due("all saw", x.likely(0, 3), 45812984490L + 22906492245L);
        CardCups y = once("cups 2 1;see 16;", "take;look;empty;turn by 1;");
        // 366,503,875,925 drank the dirty one and see none, 733,007,751,851 see it: 5 and 11 of 16 are left over
        Check.due("apart by what was seen", y.likely(0, 3), 22906492245L + 45812984490L);
        CardCups z = once("cups 2 1;see 0;", "take;look;empty;turn by 1;");
        Check.due("nothing seen: summed first", z.likely(0, 3), ONE / 16);
        // summed behind each STEP, not at the end alone
        CardCups w = once("cups 1 2;", "take;empty;turn by 1;turn by 1;");
        Check.due("summed", w.likely(0, 3), ONE / 16 - ONE / 256 + (ONE - ONE / 16) / 16);
        everyKind();
        // an act is done once by PARTS, not by those that come of it
        act("cups 0 0;", "put if in=0;", 0, 1, 0);
        act("cups 0 0;", "put if in=0;put if in=1;", 0, 2, 0);
        act("cups 0 0;", "put if in=1;put if in=0;", 0, 1, 0);
    }

    /** A sixteenth each of the 16 kinds that a C can tell apart in a VISIT: it is so of the PARTS of its kind alone. */
    private static void everyKind() {
        for (int kind = 0; kind < 16; kind++) {
            String c = "in=" + (1 + (kind & 1)) + " and card=" + (kind >> 1 & 1) + " and warm=" + (kind >> 2 & 1) + " and seen=" + (kind >> 3);
            CardCups x = once("see 8;cups 0 1;", "put by 8;turn by 8;look;start by 8;empty if " + c + ";");
            Check.due(c, x.likely(0, 4), ONE / 16);
            CardCups y = once("see 8;cups 0 1;", "put by 8;turn by 8;look;start by 8;empty if not [" + c + "];");
            Check.due("not " + c, y.likely(0, 4), ONE / 16 * 15);
        }
        CardCups all = Check.made("machine 12;person;comes 0 0;comes 0 0;", Check.times(6, "put by 8;") + "turn if in=3;");
        // of six by half each 20 of 64 have three, of twelve 220 of 4096
        Check.due("three of six", all.likely(0, 3), ONE / 64 * 20);
        Check.due("three of twelve, or of six alone", all.likely(1, 3), ONE / 4096 * (20 * 64 - 20 + 220 - 20));
    }

    private static void put() {
        Doc.says("PUT: a dirty one more, if there is room.");
        for (int held = 1; held <= 12; held++) {
            String machine = "machine " + held + ";cups ";
            act(machine + "0 0;", "put;", 0, 1, 0);
            act(machine + (held - 1) + " 0;", "put;", held - 1, 1, 0);
            act(machine + "0 " + (held - 1) + ";", "put;", 0, held, 0);
            act(machine + held + " 0;", "put;", held, 0, 0);
            act(machine + "0 " + held + ";", "put;", 0, held, 0);
        }
        act("machine 12;", Check.times(8, "put;"), 0, 8, 0);
        act("machine 2;cups 1 0;", Check.times(8, "put;"), 1, 1, 0);
    }

    private static void take() {
        Doc.says("TAKE: one is drunk from, if there is any (it is out then): of these PARTS the PARTS times dirty ones"
            + " by all in it (cut) a dirty one, else a clean one.");
        act("", "take;", 0, 0, 0);
        act("cups 1 0;", "take;", 0, 0, 0);
        act("cups 0 1;", "take;", 0, 0, 0);
        act("machine 12;cups 12 0;", "take;", 11, 0, 0);
        act("machine 12;cups 0 12;", "take;", 0, 11, 0);
        act("cups 1 1;", "take;take;", 0, 0, 0);
        act("cups 1 1;", "take;take;take;", 0, 0, 0);
        Check.due("none is drunk of none", once("", "take;").drunk(0, 0), 0);
        Check.due("a clean one is not dirty", once("cups 1 0;", "take;").drunk(0, 0), 0);
        Check.due("a dirty one", once("cups 0 1;", "take;").drunk(0, 0), 1);
        Check.due("two, and then none", once("cups 1 1;", "take;take;take;").drunk(0, 0), 1);
        taken("machine 12;cups 11 1;", "take;", 10, 1, 91625968981L);
        taken("machine 12;cups 1 11;", "take;", 0, 11, 1007885658794L);
        taken("cups 2 1;", "take;", 1, 1, 366503875925L);
        taken("cups 1 2;", "take;", 0, 2, TWO_THIRDS);
        // of those that do it: of half of all a third, cut
        CardCups x = once("cups 2 1;", "take by 8;");
        Check.due("a dirty one by half", x.state(0, 2, 0, 0), 183251937962L);
        Check.due("a clean one by half", x.state(0, 1, 1, 0), ONE / 2 - 183251937962L);
        Check.due("none by half", x.state(0, 2, 1, 0), ONE / 2);
        // one PART: half of it is none, so that it is a clean one
        Check.due("of one PART", onePart("cups 2 0;", "put;take if warm=0;").state(2, 1, 1, 0), 1);
    }

    private static void taken(String told, String habit, int cleanLeft, int dirtyLeft, long dirty) {
        CardCups x = once(told, habit);
        Check.due("dirty of " + told, x.state(0, cleanLeft + 1, dirtyLeft - 1, 0), dirty);
        Check.due("clean of " + told, x.state(0, cleanLeft, dirtyLeft, 0), ONE - dirty);
        Check.due("DRUNK of " + told, x.drunk(0, 0) * (ONE / x.drunk(0, 1)), dirty);
    }

    private static void look() {
        Doc.says("LOOK: if there is a dirty one, the PARTS times K by 16 (cut) see it.");
        String habit = "look;clean if seen=1;";
        Check.due("none in it", once("see 16;", habit).likely(0, 3), 0);
        Check.due("a clean one", once("see 16;cups 1 0;", habit).likely(0, 3), 0);
        Check.due("twelve clean ones", once("machine 12;see 16;cups 12 0;", habit).likely(0, 3), 0);
        Check.due("a dirty one", once("see 16;cups 0 1;", habit).likely(0, 3), ONE);
        Check.due("one of twelve", once("machine 12;see 16;cups 11 1;", habit).likely(0, 3), ONE);
        for (int k = 0; k <= 16; k++) {
            Check.due("K " + k, once("cups 1 1;see " + k + ";", habit).likely(0, 3), ONE / 16 * k);
            Check.due("twice, K " + k, once("cups 1 1;see " + k + ";", "look;" + habit).likely(0, 3),
                ONE - ONE / 256 * (16 - k) * (16 - k));
        }
        Check.due("cut", once("cups 1 2;see 1;", "take;" + habit).likely(0, 3), 45812984490L + 22906492245L);
        Check.due("one PART sees by 16", onePart("cups 1 0;see 16;", "put;look if warm=0;clean if seen=1;").likely(2, 3), 1);
        Check.due("one PART does not by 15", onePart("cups 1 0;see 15;", "put;look if warm=0;clean if seen=1;").likely(2, 3), 0);
        Check.due("of a HABIT that is a LOOK", once("cups 0 1;", "look;").states(0), 1);
    }

    private static void start() {
        Doc.says("START: if there is any, all are clean (clean ones are WASHED again); started in this VISIT.");
        act("", "start;", 0, 0, 0);
        CardCups x = Check.made("person;comes 0 0;comes 0 0;", "start;put by 8;");
        Check.due("nothing to start is not started", x.likely(0, 2), 0);
        Check.due("nor in a DAY", once("", "start;").day(3, 0, 6), -1);
        Check.due("what was put in is started then", x.likely(1, 2), ONE / 2);
        act("cups 0 1;", "start;", 1, 0, 0);
        act("machine 12;cups 0 12;", "start;", 12, 0, 0);
        act("machine 12;cups 12 0;", "start;", 12, 0, 0);
        act("cups 3 2;card 1;", "start;", 5, 0, 1);
        Check.due("one is enough", once("cups 1 0;", "start;").likely(0, 2), ONE);
        Check.due("a dirty one too", once("cups 0 1;", "start;").likely(0, 2), ONE);
        Check.due("dirty ones are not WASHED again", once("machine 12;cups 0 12;", "start;").done(0, 0), 0);
        Check.due("clean ones are", once("machine 12;cups 11 1;", "start;").done(0, 0), 11);
        Check.due("started twice", once("cups 0 5;", "start;start;").done(0, 0), 5);
        CardCups y = Check.made("warm 5;cups 1 0;person;comes 0 0;comes 0 4;comes 0 8;comes 0 9;", "start if visit<3;");
        Check.due("of the later VISIT: still warm", y.likely(2, 2), ONE);
        Check.due("and cold then", y.likely(3, 2), 0);
        Check.due("in a DAY of the later one", y.day(1, 3, 6), 1);
    }

    private static void otherActs() {
        Doc.says("EMPTY: none is in it.");
        act("", "empty;", 0, 0, 0);
        act("machine 12;cups 5 7;card 1;", "empty;", 0, 0, 1);
        act("machine 12;cups 12 0;", "empty;put;", 0, 1, 0);
        Check.due("still started", once("cups 1 0;", "start;empty;").likely(0, 2), ONE);
        Check.due("and warm, with none in it", once("cups 1 0;", "start;empty;clean if warm=1 and in=0;").likely(0, 3), ONE);
        Doc.says("CLEAN, DIRTY: the card says so; TURN: it says the other thing.");
        for (int card = 0; card <= 1; card++) {
            act("cups 1 2;card " + card + ";", "clean;", 1, 2, 1);
            act("cups 1 2;card " + card + ";", "dirty;", 1, 2, 0);
            act("cups 1 2;card " + card + ";", "turn;", 1, 2, 1 - card);
            act("cups 1 2;card " + card + ";", "turn;turn;", 1, 2, card);
            act("cups 1 2;card " + card + ";", "turn;clean if seen=1;dirty if seen=1;", 1, 2, 1 - card);
            Check.due("STATES turned and back", once("cups 1 2;card " + card + ";", "turn by 8;turn by 8;").states(0), 2);
        }
    }

    private static void warm() {
        Doc.says("It is WARM in MINUTES less than W from that of the VISIT in which it was started.");
        warmTo("warm 1;", 1);
        warmTo("warm 2;", 2);
        warmTo("warm 99;", 99);
        warmTo("", 30);
    }

    private static void warmTo(String told, int minutes) {
        CardCups x = Check.made(told + "cups 1 0;person;person;comes 0 381;comes 1 381;comes 1 " + (381 + minutes - 1) + ";comes 1 "
            + (381 + minutes) + ";", "start;", "turn if warm=1;");
        Check.due("in its own VISIT, " + told, x.likely(0, 2), ONE);
        Check.due("in its MINUTE, " + told, x.likely(1, 2), ONE);
        Check.due("in the last MINUTE, " + told, x.likely(2, 2), ONE);
        Check.due("no more, " + told, x.likely(3, 2), 0);
        Check.due("the word as well, " + told, x.likely(1, 3) + x.likely(2, 3) + x.likely(3, 3), ONE);
        Check.due("and in a DAY, " + told, x.day(1, 1, 2) + 10 * x.day(1, 2, 2) + 100 * x.day(1, 3, 2), 1);
    }

    private static void nothingSeen() {
        Doc.says("Behind the VISIT nothing is seen any more.");
        CardCups x = Check.made("see 8;cups 0 1;person;comes 0 0;comes 0 0;", "turn if seen=1;look if visit=1;");
        Check.due("one STATE again", x.states(0), 1);
        Check.due("in the next VISIT", x.likely(1, 3), 0);
        Check.due("in a DAY", x.day(0, 1, 2) + x.day(1, 1, 2) + x.day(2, 1, 2) + x.day(3, 1, 2), 0);
        // what saw and what did not are summed there: (4,0) by 12 of 16, and by 4
        CardCups y = Check.made("see 12;cups 2 1;person;comes 0 0;comes 0 0;", "take if visit=1;look if visit=1;empty;turn by 1 if visit=2;");
        Check.due("summed behind the VISIT", y.likely(1, 3), ONE / 16);
    }

    private static void cardTrue() {
        Doc.says("The card is TRUE, if it says clean and no dirty one is in it, or says dirty and one is.");
        String[] told = {"", "cups 1 0;", "machine 12;cups 12 0;", "cups 0 1;", "cups 7 1;", "machine 12;cups 0 12;"};
        for (int i = 0; i < told.length; i++) {
            boolean dirty = i >= 3;
            Check.due("says clean, " + told[i], once(told[i] + "card 1;", "").likely(0, 1), dirty ? 0 : ONE);
            Check.due("says dirty, " + told[i], once(told[i] + "card 0;", "").likely(0, 1), dirty ? ONE : 0);
            Check.due("in DAYS says clean, " + told[i], once(told[i] + "card 1;", "").span(1, 1, 0), dirty ? 0 : 1);
            Check.due("in DAYS says dirty, " + told[i], once(told[i] + "card 0;", "").span(1, 1, 0), dirty ? 1 : 0);
            Check.due("as told, " + told[i], Check.made(told[i] + "card 1;").falling(0), dirty ? 0 : ONE);
        }
    }

    private static void counted() {
        Doc.says("DRUNK: PARTS by which a dirty one was drunk from, of all VISITS together;");
        CardCups x = Check.made("machine 12;cups 0 12;person;person;comes 0 0;comes 1 0;comes 0 0;", "take;take;", "take by 8;");
        fraction("of two VISITS", x.drunk(0, 0), x.drunk(0, 1), 4, 1);
        fraction("of one", x.drunk(1, 0), x.drunk(1, 1), 1, 2);
        Doc.says("WASHED: PARTS, each times the clean ones washed again;");
        CardCups y = Check.made("machine 12;cups 12 0;person;" + Check.times(24, "comes 0 0;"), Check.times(8, "start;"));
        fraction("twelve, 8 times, 24 times", y.done(0, 0), y.done(0, 1), 12 * 8 * 24, 1);
        fraction("by an eighth", once("cups 3 4;", "start by 2;").done(0, 0), once("cups 3 4;", "start by 2;").done(0, 1), 3, 8);
        Doc.says("LOOKS: PARTS that looked.");
        fraction("seen or not", once("see 0;cups 0 1;", "look by 2;").done(1, 0), once("see 0;cups 0 1;", "look by 2;").done(1, 1), 1, 8);
        fraction("with none in it", once("", "look;").done(1, 0), once("", "look;").done(1, 1), 1, 1);
        fraction("nobody", once("", "look if 1=2;").done(1, 0), once("", "look if 1=2;").done(1, 1), 0, 1);
        Doc.says("COST: all these times D, X, L, by ONE.");
        CardCups z = once("machine 12;cost 50 7 3 99 99;cups 2 1;", "look;start;put;take by 8 if in=4;take by 8 if in=12;");
        // a look, two washed again, of half the four by a quarter: 3 + 14 + 50 / 8
        fraction("together", z.cost(0), z.cost(1), 93, 4);
        Check.due("for nothing", once("cost 0 0 0 99 99;cups 2 1;", "look;start;put;take;").cost(0), 0);
    }

    // ---- terms 3 ----

    private static void givenBook() {
        Doc.says("GIVEN the BOOK: as each VISIT begins (behind the card's falling) only PARTS go on of STATES"
            + " of which its lines are so (lines of VISITS there are none are not asked).");
        CardCups x = Check.made("fall 16;person;comes 0 0;comes 0 0;", "clean;put;");
        Check.book(x, "0 card 1;1 card 0;0 in 0;1 in 1;");
        Check.due("all of it is so", x.fits(0), 1);
        Check.book(x, "0 card 0;");
        Check.due("ahead of the falling it was", x.fits(0), 0);
        Check.book(x, "1 card 1;");
        Check.due("and in the next VISIT", x.fits(0), 0);
        Check.book(x, "0 in 1;");
        Check.due("ahead of the STEPS", x.fits(0), 0);
        Check.book(x, "2 in 1;");
        Check.due("VISIT 2: there is none", x.fits(0), 1);
        x.come(0, 480);
        Check.due("now there is: of two in it", x.fits(0), 0);
        x.undo();
        Check.due("and again none", x.fits(0), 1);
        Check.book(x, "0 card 1;0 card 1;0 card 0;");
        Check.due("all lines of a VISIT", x.fits(0), 0);
        // PARTS that do not go on come not again
        CardCups y = Check.made("person;comes 0 0;comes 0 0;comes 0 0;", "turn by 8;");
        Check.book(y, "1 card 1;2 card 1;");
        fraction("half, and half of it", y.fits(0), y.fits(1), 1, 4);
        // the one PART that is left is one PART
        CardCups z = onePart("cups 1 0;", "");
        Check.book(z, "2 warm 0;");
        fraction("one PART", z.fits(0), z.fits(1), 1, ONE);
        Check.due("is enough", z.best(2), 0);
        Check.book(z, "2 warm 0;2 warm 1;");
        fraction("none", z.fits(0), z.fits(1), 0, 1);
        Check.due("is not", z.best(2), -1);
        Doc.says("One who comes as VISIT I begins, GIVEN the BOOK's lines to I, may:");
        CardCups w = Check.made("cups 0 1;card 1;person;comes 0 0;comes 0 0;comes 0 0;", "empty by 8 if visit=1;");
        Check.book(w, "1 in 1;2 in 0;");
        fraction("the lines of 1 are asked for 1", w.given(1, 0, 0), w.given(1, 0, 1), 0, 1);
        fraction("not those of 2", w.worth(1, 0, 0), w.worth(1, 0, 1), 9, 1);
        fraction("nor of 1 for 0", w.worth(0, 0, 0), w.worth(0, 0, 1), 9, 1);
        Check.due("none is left for 2", w.best(2), -1);
        Check.book(w, "2 in 0;");
        fraction("as VISIT 1 begins, both", w.given(1, 0, 0), w.given(1, 0, 1), 1, 2);
        fraction("as VISIT 2 begins, the one", w.given(2, 0, 0), w.given(2, 0, 1), 1, 1);
    }

    private static void way(String what, CardCups x, int visit, int way, long above, long below) {
        fraction(what, x.worth(visit, way, 0), x.worth(visit, way, 1), above, below);
    }

    private static void ways() {
        Doc.says("(0) TAKE one: D for PARTS times dirty ones by all in it (cut), O for PARTS without any in it;");
        String cost = "cost 50 7 2 30 11;";
        way("none in it", once(cost, ""), 0, 0, 30, 1);
        way("a clean one", once(cost + "cups 1 0;", ""), 0, 0, 0, 1);
        way("a dirty one", once(cost + "cups 0 1;", ""), 0, 0, 50, 1);
        way("one of two", once(cost + "cups 1 1;", ""), 0, 0, 25, 1);
        way("one of three, cut", once("cost 1 0 0 0 0;cups 2 1;", ""), 0, 0, 366503875925L, ONE);
        way("eleven of twelve, cut", once("machine 12;cost 12 0 0 0 0;cups 1 11;", ""), 0, 0, 1007885658794L * 12 / 8, ONE / 8);
        CardCups one = onePart(cost + "cups 1 0;", "");
        CardCups half = Check.made(cost + "person;person;comes 0 0;comes 1 0;", "put by 8;", "");
        way("half of them without any", half, 1, 0, 40, 1);
        Doc.says("(1) wash his OWN: O;");
        way("whatever is in it", half, 1, 1, 30, 1);
        way("with none", once(cost, ""), 0, 1, 30, 1);
        way("dirty ones", once(cost + "cups 0 8;", ""), 0, 1, 30, 1);
        Doc.says("(2) LOOK (L): by what he sees (PARTS times K by 16, cut, of those with a dirty one, and all others apart)"
            + " the less of TAKE and OWN;");
        way("none in it: O", once(cost, ""), 0, 2, 32, 1);
        way("clean: TAKE", once(cost + "cups 1 0;", ""), 0, 2, 2, 1);
        way("dirty, seen: OWN", once(cost + "cups 0 1;see 16;", ""), 0, 2, 32, 1);
        way("dirty, not seen: OWN too", once(cost + "cups 0 1;see 0;", ""), 0, 2, 32, 1);
        // by half there is none, O; by half a dirty one. Not seen: TAKE 40 or OWN 30. Seen: 30 of each
        way("half, K 0", Check.made(cost + "see 0;person;person;comes 0 0;comes 1 0;", "put by 8;", ""), 1, 2, 32, 1);
        // by half a clean one, by half a dirty one, K 8: 1/4 see it, OWN; of 3/4 a third is dirty: 50 by 1/4 is less than 30 by 3/4
        CardCups clean = Check.made(cost + "see 8;cups 0 1;person;person;comes 0 0;comes 1 0;", "start by 8;", "");
        way("half clean, K 8", clean, 1, 2, 22, 1);
        CardCups sure = Check.made(cost + "see 16;cups 0 1;person;person;comes 0 0;comes 1 0;", "start by 8;", "");
        way("half clean, K 16", sure, 1, 2, 17, 1);
        CardCups blind = Check.made(cost + "see 0;cups 0 1;person;person;comes 0 0;comes 1 0;", "start by 8;", "");
        way("half clean, K 0: TAKE of 25", blind, 1, 2, 27, 1);
        // PARTS that see are cut: a sixteenth of two thirds and of a third, each; TAKE is free for all others
        CardCups thirds = Check.made("cost 0 0 0 1 0;see 1;cups 1 2;person;person;comes 0 0;comes 1 0;", "take;", "");
        way("cut, but TAKE is for nothing", thirds, 1, 2, 0, 1);
        // (1,1) of 733,007,751,850 and (0,2) of 366,503,875,926: 45,812,984,490 and 22,906,492,245 see; OWN is for nothing
        CardCups free = Check.made("cost 9 0 0 0 0;see 1;cups 1 2;person;person;comes 0 0;comes 1 0;", "take;", "");
        way("cut, but OWN is for nothing", free, 1, 2, 0, 1);
        seenPartsAreCut();
        Doc.says("(3) START: X for each clean one in it, S, and O for PARTS without any in it.");
        way("none in it", once(cost, ""), 0, 3, 41, 1);
        way("a dirty one", once(cost + "cups 0 1;", ""), 0, 3, 11, 1);
        way("a clean one", once(cost + "cups 1 0;", ""), 0, 3, 18, 1);
        way("twelve clean ones", once("machine 12;" + cost + "cups 12 0;", ""), 0, 3, 12 * 7 + 11, 1);
        way("half of them without any", half, 1, 3, 26, 1);
        Check.due("one PART", one.states(2), 3);
        Check.book(one, "2 warm 0;");
        way("one PART, a clean one", one, 2, 3, 18, 1);
        way("one PART, a clean one", one, 2, 0, 0, 1);
        // half of one PART is none
        CardCups mixed = onePart(cost + "cups 1 0;", "put;");
        mixed.come(1, 0);
        Check.book(mixed, "3 warm 0;");
        way("half of one PART, cut", mixed, 3, 0, 0, 1);
        way("one PART has one dirty one of two", mixed, 3, 2, 2, 1);
    }

    /** Those that see wash their own (1 each), the others TAKE: a dirty one costs 1 as well, so that both groups show. */
    private static void seenPartsAreCut() {
        // all PARTS (0,1): K by 16 see; OWN 3 for these and for the others, TAKE 9: nothing is cut
        CardCups x = Check.made("cost 2 0 0 1 0;see 1;cups 1 2;person;person;comes 0 0;comes 1 0;", "take;", "");
        // (1,1): PARTS a = 733,007,751,850, of which 45,812,984,490 see: TAKE is 2 by half of these, 45,812,984,490
        // (0,2): PARTS b = 366,503,875,926, of which 22,906,492,245 see: TAKE is 2 for each, 45,812,984,490
        // together TAKE 91,625,968,980 is more than OWN 68,719,476,735
        // of the others 687,194,767,360 (half: 343,597,383,680) and 343,597,383,681: TAKE 1,374,389,534,722, OWN 1,030,792,151,041
        way("OWN for both", x, 1, 2, 1, 1);
        CardCups y = Check.made("cost 1 0 0 1 0;see 1;cups 1 2;person;person;comes 0 0;comes 1 0;", "take;", "");
        // TAKE of those that see: 22,906,492,245 and 22,906,492,245; of the others 343,597,383,680 and 343,597,383,681
        way("TAKE for both", y, 1, 2, 45812984490L + 687194767361L, ONE);
        CardCups z = Check.made("cost 1 0 0 1 0;see 15;cups 1 2;person;person;comes 0 0;comes 1 0;", "take;", "");
        // see 687,194,767,359 (cut) and 343,597,383,680 (cut): half 343,597,383,679; the others 45,812,984,491 and 22,906,492,246
        way("TAKE for both, K 15", z, 1, 2, (343597383679L + 343597383680L + 22906492245L + 22906492246L) / 2, ONE / 2);
    }

    private static void bestAndGain() {
        Doc.says("BEST: the least of all PARTS together, of these the first; by PARTS.");
        // all four alike, then each one the least by one of 99
        Check.due("all alike", once("cost 5 0 0 5 5;cups 0 1;", "").best(0), 0);
        Check.due("1, 2 and 3 alike", once("cost 6 0 0 5 5;cups 0 1;", "").best(0), 1);
        Check.due("0 and 3 alike", once("cost 4 0 1 5 4;cups 0 1;", "").best(0), 0);
        Check.due("3 alone", once("cost 5 0 0 5 4;cups 0 1;", "").best(0), 3);
        Check.due("0 by one", once("cost 4 0 0 5 5;cups 0 1;", "").best(0), 0);
        CardCups half = Check.made("cost 2 0 0 1 1;see 16;cups 0 1;person;person;comes 0 0;comes 1 0;", "start by 8;", "");
        // TAKE 2 by half, OWN 1, LOOK OWN by half, START 1
        Check.due("2 alone", half.best(1), 2);
        CardCups dear = Check.made("cost 4 2 1 2 1;see 16;cups 0 1;person;person;comes 0 0;comes 1 0;", "start by 8;", "");
        // TAKE 2, OWN 2, LOOK 1 and 1, START 1 and 1
        Check.due("all alike again", dear.best(1), 0);
        // by one PART: TAKE costs ONE less 1, OWN ONE
        CardCups part = onePart("cost 1 0 9 1 9;cups 1 0;", "empty if warm=1;start if warm=0;");
        Check.due("none of them yet", part.best(2), 0);
        CardCups less = onePart("cost 1 0 9 1 9;cups 1 0;", "empty if warm=1;");
        less.come(1, 0);
        // VISIT 3: ONE less 1 without any, O; one PART clean, nothing: less than OWN for all
        Check.due("less by one PART", less.best(3), 0);
        fraction("TAKE then", less.worth(3, 0, 0), less.worth(3, 0, 1), ONE - 1, ONE);
        Doc.says("GAIN: how much LOOK is less than the lesser of TAKE and OWN (0: it is not).");
        gain("LOOK is as dear", once("cost 5 0 0 5 5;cups 0 1;", ""), 0, 0, 1);
        gain("LOOK is dearer", once("cost 5 0 1 5 5;cups 0 1;", ""), 0, 0, 1);
        gain("LOOK half an O less", half, 1, 1, 2);
        gain("all alike", dear, 1, 0, 1);
        gain("OWN is the lesser", Check.made("cost 99 0 1 10 1;see 16;cups 0 1;person;person;comes 0 0;comes 1 0;", "start by 8;", ""), 1, 4, 1);
        gain("TAKE is the lesser", Check.made("cost 16 0 1 10 1;see 16;cups 0 1;person;person;comes 0 0;comes 1 0;", "start by 8;", ""), 1, 2, 1);
        CardCups few = onePart("cost 99 0 0 1 0;cups 0 1;see 16;", "put if warm=1;");
        few.come(1, 0);
        // one PART has no dirty one... it was never started: (0,1), the others (1,1): all have one, OWN for all
        gain("all have one", few, 3, 0, 1);
        CardCups lone = onePart("cost 99 0 0 1 0;cups 1 0;see 16;", "put if warm=1;");
        lone.come(1, 0);
        gain("one PART need not wash", lone, 3, 1, ONE);
    }

    private static void gain(String what, CardCups x, int visit, long above, long below) {
        fraction(what, x.gain(visit, 0), x.gain(visit, 1), above, below);
    }

    private static void whatIf() {
        Doc.says("WITHOUT a PERSON: his VISITS are left out (others' \"last\", \"visit\" are their own).");
        CardCups x = Check.made("card 1;fall 16;person;person;person;comes 0 0;comes 1 0;comes 0 9;comes 1 9;", "look;", "look if last=9 and visit=2;");
        Check.due("two falls less", x.without(1, 0), ONE);
        Check.due("looks of 0", x.without(1, 1), 2);
        Check.due("looks of 1, of his second VISIT", x.without(0, 1), 1);
        Check.due("who does not come", x.without(2, 0) + x.without(2, 1), ONE + 3);
        CardCups only = Check.made("card 1;fall 16;person;comes 0 0;", "look;");
        Check.due("without all VISITS: as told", only.without(0, 0), ONE);
        Check.due("and for nothing", only.without(0, 1), 0);
        Check.due("COST of 15 by 16 is cut", Check.made("person;person;comes 1 0;", "", "look by 15;").without(0, 1), 0);
        Check.due("COST of 16 by 16 is not", Check.made("person;person;comes 1 0;", "", "look by 16;").without(0, 1), 1);
        Doc.says("KEEPER: the PERSON without whom the card is TRUE by the fewest PARTS behind the last VISIT, of these the first.");
        String three = "card 1;person;person;person;comes 0 0;comes 1 0;comes 2 0;";
        Check.due("all alike", Check.made(three).keeper(), 0);
        Check.due("1 and 2 alike", Check.made(three, "put;", "empty by 8;", "empty by 8;").keeper(), 1);
        Check.due("2 by one of 16", Check.made(three, "put;", "empty by 8;", "empty by 9;").keeper(), 2);
        Check.due("1 by one of 16", Check.made(three, "put;", "empty by 9;", "empty by 8;").keeper(), 1);
        Check.due("nobody comes", Check.made("person;person;").keeper(), 0);
        // 0 puts a dirty one in, so that the card is not TRUE but for the one PART that is turned; without 0 it is TRUE
        Check.due("by one PART, 1", partLeft("turn if warm=0 and in=2;", "").keeper(), 1);
        Check.due("by one PART, 2", partLeft("", "turn if warm=0 and in=2;").keeper(), 2);
        CardCups part = partLeft("turn if warm=0 and in=2;", "");
        Check.due("TRUE without 0", part.without(0, 0), ONE);
        Check.due("TRUE without 1", part.without(1, 0), 0);
        Check.due("TRUE without 2", part.without(2, 0), 1);
        Doc.says("SPOILER: without whom the COST is least, of these the first.");
        Check.due("all alike", Check.made(three).spoiler(), 0);
        Check.due("1 and 2 alike", Check.made(three, "look by 7;", "look by 8;", "look by 8;").spoiler(), 1);
        Check.due("2 by one of 16", Check.made(three, "look by 8;", "look by 8;", "look by 9;").spoiler(), 2);
        Check.due("0 of alike ones", Check.made(three, "look by 8;", "look by 8;", "look by 7;").spoiler(), 0);
        // one PART looks, but without 0 the other one does by all
        Check.due("by one PART, 1", partLeft("look if warm=0 and in=2;", "look if in=1;").spoiler(), 1);
        Check.due("by one PART, 2", partLeft("look if in=1;", "look if warm=0 and in=2;").spoiler(), 2);
        Check.due("nobody comes", Check.made("person;person;").spoiler(), 0);
    }

    /** PERSON 0 leaves one PART cold, and a dirty one in it; then 1 and 2 come. */
    private static CardCups partLeft(String first, String second) {
        return Check.made("machine 2;card 1;cups 1 0;person;person;person;comes 0 0;comes 0 0;comes 1 0;comes 2 0;",
            Check.times(6, "start by 15 if warm=0;") + "put if visit=2;", first, second);
    }

    private static void starter() {
        Doc.says("A STARTER by k: behind each VISIT all PARTS of STATES with k or more in it are started (as by START, of that VISIT).");
        for (int in = 0; in <= 12; in++) {
            CardCups x = once("machine 12;cost 0 1 0 0 0;cups " + in + " 0;", "");
            for (int k = 1; k <= 12; k++) Check.due(in + " in it, k " + k, x.filled(k, 0), in >= k ? in : 0);
        }
        // dirty ones count to k, and are not washed again; behind each VISIT, also one in which nothing is done
        CardCups y = Check.made("cost 0 1 0 0 0;cups 1 2;person;person;comes 0 0;comes 1 0;", "");
        Check.due("1, and 3 in the next VISIT", y.filled(3, 0), 4);
        Check.due("k 4", y.filled(4, 0), 0);
        // of that VISIT: warm in the next one, not started in the VISIT itself yet
        CardCups z = Check.made("cost 0 0 1 0 0;warm 5;cups 1 0;person;comes 0 0;comes 0 4;comes 0 8;comes 0 13;", "look if warm=1;");
        Check.due("warm in two of four", z.filled(1, 0), 2);
        Check.due("never", z.filled(2, 0), 0);
        Check.due("as it is", z.cost(0), 0);
        CardCups empty = Check.made("person;comes 0 0;comes 0 0;comes 0 0;", "look;");
        Check.due("none in it, and no PART more", empty.filled(1, 0), 3);
        Doc.says("BEST FILL: the k (1 to N) of the least COST with a STARTER, of these the least.");
        for (int held = 1; held <= 12; held++) {
            // what is in it is washed again, unless k is above it
            CardCups full = once("machine " + held + ";cups " + held + " 0;", "");
            Check.due("full: all alike, N " + held, full.fill(), 1);
            CardCups room = once("machine " + held + ";cups " + (held - 1) + " 0;", "");
            Check.due("one more than is in it, N " + held, room.fill(), held == 1 ? 1 : held);
        }
        CardCups other = Check.made("machine 12;cups 4 0;person;comes 0 0;");
        Check.due("5 of 5 to 12", other.fill(), 5);
        Check.due("nobody", new CardCups().fill(), 1);
    }

    private static void ruledAndSwapped() {
        Doc.says("RULED: all do by the RULE (no RULE: nothing).");
        CardCups x = Check.made("card 1;person;person;comes 0 0;comes 1 0;", "dirty;look;", "look;");
        Check.due("no RULE: TRUE", x.ruled(0), ONE);
        Check.due("no RULE: COST", x.ruled(1), 0);
        Check.rule(x, "look if visit=1;look if visit=2;turn by 8;");
        Check.due("each his own first VISIT", x.ruled(1), 2);
        Check.due("turned by half, twice", x.ruled(0), ONE / 2);
        Check.rule(x, "");
        Check.due("a RULE without STEPS", x.ruled(0) + x.ruled(1), ONE);
        Doc.says("SWAPPED: two have each other's HABIT.");
        CardCups y = Check.made("person;person;person;comes 0 0;comes 0 0;comes 1 0;", "look;", "look;look;look;look;", "look;look;");
        Check.due("as it is", y.cost(0), 6);
        Check.due("0 and 1", y.swapped(0, 1, 0), 9);
        Check.due("1 and 0", y.swapped(1, 0, 0), 9);
        Check.due("0 and 2", y.swapped(0, 2, 0), 8);
        Check.due("1 and 2", y.swapped(1, 2, 0), 4);
        Check.due("as it is again", y.cost(0), 6);
        CardCups six = Check.made(Check.times(6, "person;") + "comes 5 0;comes 4 0;", "", "", "", "", "look;", "look;look;look;");
        Check.due("4 and 5", six.swapped(4, 5, 0), 4);
        Check.due("5 and 0", six.swapped(5, 0, 0), 1);
        Check.due("0 and 4", six.swapped(0, 4, 0), 3);
        Check.due("0 and 1", six.swapped(0, 1, 0), 4);
    }

    // ---- DAYS ----

    /** The DRAWS of a SEED, in numbers that do not wrap. */
    private static final class Draws {
        private long seed;

        Draws(int seed) {
            this.seed = seed < 0 ? seed + (1L << 32) : seed;
        }

        int by(int n) {
            seed = (seed * 1103515245L + 12345L) % (1L << 32);
            return (int) (seed / 65536 % 32768 % n);
        }
    }

    private static final int[] SEEDS = {0, 1, 2, 3, 16838, -1, -2, 1 << 16, 1 << 30, Integer.MAX_VALUE, Integer.MIN_VALUE, 123456789, -987654321};

    private static void draws() {
        Doc.says("A DAY by a SEED: DRAW: the SEED (32 bits) becomes itself times 1,103,515,245, and 12,345 (it wraps); its bits 16 to 30.");
        // by 11 and by 7 all fifteen bits count
        CardCups x = Check.made("machine 11;cups 4 7;person;person;comes 0 0;comes 1 0;", "take;", "take;take;take;");
        for (int seed : SEEDS) {
            Draws draws = new Draws(seed);
            draws.by(16);
            int dirty = draws.by(11) < 7 ? 6 : 7;
            Check.due("the first one, SEED " + seed, x.day(seed, 0, 1), dirty);
            draws.by(16);
            for (int all = 10; all >= 8; all--) dirty -= draws.by(all) < dirty ? 1 : 0;
            Check.due("four, SEED " + seed, x.day(seed, 1, 1), dirty);
            Check.due("the clean ones, SEED " + seed, x.day(seed, 1, 0), 7 - dirty);
            Check.due("DRUNK, SEED " + seed, x.day(seed, 1, 3), 7 - dirty);
        }
        Doc.says("The card falls, if DRAW by 16 (what is left of it) is below Q;");
        Doc.says("a STEP whose C is so is done, if DRAW by 16 is below its Q (no DRAW without \"by\");");
        for (int q = 0; q <= 16; q++) drawnBelow(q);
        Doc.says("TAKE (of any): a dirty one, if DRAW by all in it is below the dirty ones;");
        takeDraws();
        Doc.says("LOOK (if there is a dirty one): it is seen, if DRAW by 16 is below K.");
        lookDraws();
    }

    private static void drawnBelow(int q) {
        CardCups falls = once("fall " + q + ";", "");
        CardCups steps = q == 0 ? null : once("", "turn;turn;turn by 5 if 1=2;turn by " + q + ";");
        CardCups sees = once("see " + q + ";cups 0 1;", "look;clean if seen=1;");
        for (int seed : SEEDS) {
            Draws draws = new Draws(seed);
            int first = draws.by(16);
            int second = draws.by(16);
            Check.due("falls, Q " + q + ", SEED " + seed, falls.day(seed, 0, 2), first < q ? 1 : 0);
            if (steps != null) Check.due("STEP, Q " + q + ", SEED " + seed, steps.day(seed, 0, 2), second < q ? 1 : 0);
            Check.due("seen, K " + q + ", SEED " + seed, sees.day(seed, 0, 2), second < q ? 1 : 0);
        }
    }

    private static void takeDraws() {
        // of none nothing is DRAWN: the second DRAW is that of the STEP behind it
        CardCups none = once("", "take;turn by 8;");
        for (int dirty = 0; dirty <= 12; dirty++) {
            CardCups x = once("machine 12;cups " + (12 - dirty) + " " + dirty + ";", "take;turn by 8;");
            for (int seed : SEEDS) {
                Draws draws = new Draws(seed);
                draws.by(16);
                Check.due(dirty + " of 12, SEED " + seed, x.day(seed, 0, 3), draws.by(12) < dirty ? 1 : 0);
                Check.due("the next DRAW", x.day(seed, 0, 2), draws.by(16) < 8 ? 1 : 0);
            }
        }
        for (int seed : SEEDS) {
            Draws draws = new Draws(seed);
            draws.by(16);
            Check.due("of none, SEED " + seed, none.day(seed, 0, 3), 0);
            Check.due("no DRAW, SEED " + seed, none.day(seed, 0, 2), draws.by(16) < 8 ? 1 : 0);
        }
    }

    private static void lookDraws() {
        CardCups clean = once("cups 3 0;", "look;turn by 8;");
        CardCups dirty = once("cups 3 1;", "look;turn by 8;");
        for (int seed : SEEDS) {
            Draws draws = new Draws(seed);
            draws.by(16);
            int second = draws.by(16);
            int third = draws.by(16);
            Check.due("no dirty one, no DRAW, SEED " + seed, clean.day(seed, 0, 2), second < 8 ? 1 : 0);
            Check.due("a dirty one, a DRAW, SEED " + seed, dirty.day(seed, 0, 2), third < 8 ? 1 : 0);
            Check.due("looks", clean.day(seed, 0, 5) + dirty.day(seed, 0, 5), 2);
        }
    }

    // ---- promises 1 and 8 to 38 ----

    private static void promises() {
        newObject();
        told();
        statesAndLikely();
        likeliest();
        means();
        since();
        drunkAndDone();
        given();
        answersOfChange();
        swap();
        day();
        span();
        reckonedApart();
    }

    private static CardCups sixPeople() {
        CardCups x = Check.made("machine 4;cups 2 1;card 1;fall 3;see 5;person;person;person;person;person;person;"
            + "comes 0 0;comes 1 0;comes 2 9;comes 3 9;comes 4 20;comes 5 20;",
            "take;look;", "put;turn by 3;", "look;start if seen=1;", "take by 5;", "put by 9;dirty if in>2;", "start by 2;take;");
        Check.rule(x, "take;put;look by 3;");
        return x;
    }

    private static List<Twins.Use> questions() {
        List<Twins.Use> all = new ArrayList<>();
        for (int p = 0; p < 6; p++) {
            int one = p;
            all.add(x -> x.without(one, 0));
            all.add(x -> x.without(one, 1));
            all.add(x -> x.drunk(one, 0));
            all.add(x -> x.likely(one, 1));
            all.add(x -> x.state(one, 1, 1, 0));
            for (int other = 0; other < 6; other++) {
                int two = other;
                if (two != one) all.add(x -> x.swapped(one, two, 0));
            }
        }
        for (int n = 0; n <= 16; n++) {
            int q = n;
            all.add(x -> x.falling(q));
            all.add(x -> x.seeing(q, 0));
            if (q >= 1 && q <= 12) all.add(x -> x.filled(q, 0));
        }
        all.add(x -> x.ruled(0));
        all.add(x -> x.ruled(1));
        all.add(x -> x.cost(0));
        all.add(x -> x.done(0, 0));
        all.add(x -> x.done(1, 0));
        all.add(x -> x.fits(0));
        all.add(x -> x.since());
        all.add(x -> x.often(0));
        return all;
    }

    /** Each question is answered alike, whatever was asked ahead of it. */
    private static void reckonedApart() {
        Check.part("reckoned apart");
        List<Twins.Use> all = questions();
        CardCups forth = sixPeople();
        CardCups back = sixPeople();
        long[] alone = new long[all.size()];
        for (int i = 0; i < alone.length; i++) {
            alone[i] = all.get(i).answer(sixPeople());
            Check.due("question " + i + " behind those ahead", all.get(i).answer(forth), alone[i]);
        }
        for (int i = alone.length - 1; i >= 0; i--) {
            Check.due("question " + i + " behind those after", all.get(i).answer(back), alone[i]);
            Check.due("question " + i + " again", all.get(i).answer(forth), alone[i]);
        }
    }

    private static void newObject() {
        Doc.section("Promise 1");
        Doc.says("An OFFICE without CLAUSES.");
        CardCups empty = new CardCups();
        Check.due("office", empty.office(0), 0);
        Twins.alike("a new object", new CardCups(), empty, true);
        CardCups x = new CardCups();
        Check.due("VISITS", x.told(8), 0);
        Check.due("PEOPLE", x.told(7), 0);
        Check.due("no text was read", x.fault(), -1);
        Check.due("none is refused", x.status(0) + x.status(1), 0);
        Check.due("NONE", CardCups.NONE, -1);
        Check.missing("PERSON 0", () -> x.person(0, 0));
        Check.missing("VISIT 0", () -> x.visit(0, 0));
    }

    private static void told() {
        Doc.section("Promise 8");
        Doc.says("0 N, 1 clean ones at first, 2 dirty ones, 3 the card, 4 Q of falling, 5 W, 6 K, 7 PEOPLE, 8 VISITS, 9 lines of the BOOK.");
        CardCups x = Check.made("machine 11;cups 3 4;card 1;fall 15;warm 98;see 13;" + Check.times(5, "person;") + "comes 4 0;comes 2 0;", "take;");
        Check.book(x, "0 in 7;1 in 7;0 in 7;");
        int[] due = {11, 3, 4, 1, 15, 98, 13, 5, 2, 3};
        for (int w = 0; w <= 9; w++) Check.due("told " + w, x.told(w), due[w]);
        Doc.section("Promise 9");
        Doc.says("Of a VISIT: 0 PERSON, 1 MINUTE, 2 which of his (from 1 on), 3 MINUTES since his VISIT ahead (999: none).");
        CardCups y = Check.made("person;person;comes 1 0;comes 0 0;comes 1 0;comes 1 480;comes 0 480;");
        int[][] visits = {{1, 0, 1, 999}, {0, 0, 1, 999}, {1, 0, 2, 0}, {1, 480, 3, 480}, {0, 480, 2, 480}};
        for (int v = 0; v < 5; v++) {
            for (int w = 0; w < 4; w++) Check.due("visit " + v + " " + w, y.visit(v, w), visits[v][w]);
        }
        Doc.section("Promise 10");
        Doc.says("Of a PERSON: 0 STEPS of his HABIT, 1 how many VISITS, 2 his first VISIT (NONE).");
        CardCups z = Check.made(Check.times(6, "person;") + Check.times(23, "comes 5 1;") + "comes 4 2;", "", "", "", "", "put;", Check.times(8, "put;"));
        int[][] people = {{0, 0, -1}, {0, 0, -1}, {0, 0, -1}, {0, 0, -1}, {1, 1, 23}, {8, 23, 0}};
        for (int p = 0; p < 6; p++) {
            for (int w = 0; w < 3; w++) Check.due("person " + p + " " + w, z.person(p, w), people[p][w]);
        }
        Doc.section("Promise 11");
        Doc.says("What costs: 0 D, 1 X, 2 L, 3 O, 4 S.");
        CardCups u = Check.made("cost 99 0 1 98 50;");
        int[] prices = {99, 0, 1, 98, 50};
        for (int w = 0; w < 5; w++) Check.due("price " + w, u.price(w), prices[w]);
    }

    private static void statesAndLikely() {
        Doc.section("Promise 12");
        Doc.says("How many STATES have PARTS behind a VISIT (unlike also by when it was started).");
        Check.due("one", once("", "").states(0), 1);
        Check.due("none that has no PARTS", once("", "put;take;").states(0), 1);
        Check.due("one PART is enough", onePart("cups 1 0;", "turn if warm=0;").states(2), 3);
        Check.due("15 of 16 of one PART are none", onePart("cups 1 0;", "turn by 15 if warm=0;").states(2), 3);
        Check.due("unlike by the card", onePart("cups 1 0;", "turn by 15;").states(2), 5);
        Doc.section("Promise 13");
        Doc.says("PARTS behind a VISIT by which: 0 no dirty one is in it, 1 the card is TRUE, 2 it is WARM (in its MINUTE),"
            + " 3 the card says clean, 4 nothing is in it, 5 it is full.");
        likely("machine 12;", "", ONE, 0, 0, 0, ONE, 0);
        likely("machine 12;cups 12 0;card 1;", "", ONE, ONE, 0, ONE, 0, ONE);
        likely("machine 12;cups 0 12;", "", 0, ONE, 0, 0, 0, ONE);
        likely("machine 12;cups 0 11;", "", 0, ONE, 0, 0, 0, 0);
        likely("machine 1;cups 1 0;", "start;", ONE, 0, ONE, 0, 0, ONE);
        likely("machine 1;", "", ONE, 0, 0, 0, ONE, 0);
        likely("machine 1;", "put by 1;", ONE / 16 * 15, ONE / 16, 0, 0, ONE / 16 * 15, ONE / 16);
        Doc.section("Promise 14");
        Doc.says("PARTS behind a VISIT with so many clean and dirty ones");
        CardCups x = once("machine 12;cups 12 0;", "");
        Check.due("12 and 0", x.state(0, 12, 0, 0), ONE);
        Check.due("12 and 1", x.state(0, 12, 1, 0), 0);
        Check.due("12 and 12", x.state(0, 12, 12, 1), 0);
        Check.due("11 and 0", x.state(0, 11, 0, 0), 0);
        Check.due("0 and 12", x.state(0, 0, 12, 0), 0);
        Check.due("the other card", x.state(0, 12, 0, 1), 0);
        CardCups y = once("machine 12;cups 0 12;card 1;", "");
        Check.due("0 and 12, clean", y.state(0, 0, 12, 1), ONE);
        Check.due("1 and 11", y.state(0, 1, 11, 1), 0);
        CardCups z = once("", "");
        Check.due("0 and 0", z.state(0, 0, 0, 0), ONE);
        Check.due("each is told apart", sumOfAll(z), ONE);
        Check.due("all of them", sumOfAll(Check.made("machine 12;cups 5 5;person;person;comes 0 0;comes 1 0;", "take by 5;start by 3;put;",
            "turn by 7;take;empty by 1;")), ONE);
    }

    /** Of the last VISIT, over all that state() takes. */
    private static long sumOfAll(CardCups x) {
        long sum = 0;
        int last = x.told(8) - 1;
        for (int clean = 0; clean <= 12; clean++) {
            for (int dirty = 0; dirty <= 12; dirty++) {
                sum += x.state(last, clean, dirty, 0) + x.state(last, clean, dirty, 1);
            }
        }
        return sum;
    }

    private static void likely(String told, String habit, long... due) {
        CardCups x = once(told, habit);
        for (int w = 0; w < 6; w++) Check.due("likely " + w + " of " + told + habit, x.likely(0, w), due[w]);
    }

    private static void likeliest() {
        Doc.section("Promise 15");
        Doc.says("The likeliest of these behind a VISIT: 100 times the clean ones, 2 times the dirty ones, the card; of alike ones the least.");
        Check.due("none", once("", "").likeliest(0), 0);
        Check.due("none, clean", once("card 1;", "").likeliest(0), 1);
        Check.due("12 dirty ones, clean", once("machine 12;cups 0 12;card 1;", "").likeliest(0), 25);
        Check.due("12 clean ones, clean", once("machine 12;cups 12 0;card 1;", "").likeliest(0), 1201);
        Check.due("11 and 1", once("machine 12;cups 11 1;", "").likeliest(0), 1102);
        Check.due("alike by the card", once("cups 2 3;card 1;", "turn by 8;").likeliest(0), 206);
        Check.due("alike by dirty ones", once("cups 2 3;", "put by 8;").likeliest(0), 206);
        Check.due("alike by clean ones", once("cups 2 0;", "take by 8;").likeliest(0), 100);
        Check.due("clean ones ahead of dirty ones", once("cups 0 5;", "start by 8;").likeliest(0), 10);
        Check.due("more of the later one", once("cups 0 5;", "start by 9;").likeliest(0), 500);
        Check.due("by one PART", onePart("cups 1 0;", "turn;turn by 8 if warm=1;").likeliest(2), 101);
        Check.due("by one PART less", onePart("cups 1 0;", "turn if warm=1;turn by 8 if warm=1;").likeliest(2), 100);
        Check.due("alike by one PART", onePart("cups 1 0;", "turn by 8 if warm=1;turn if warm=0;").likeliest(2), 100);
    }

    private static void means() {
        Doc.section("Promise 16");
        Doc.says("On the mean behind a VISIT: 0 clean ones, 1 dirty ones (what):");
        CardCups x = once("machine 12;cups 12 0;", "");
        fraction("12 clean ones", x.mean(0, 0, 0), x.mean(0, 0, 1), 12, 1);
        fraction("no dirty ones", x.mean(0, 1, 0), x.mean(0, 1, 1), 0, 1);
        CardCups y = once("machine 12;cups 0 12;", "empty by 2;");
        fraction("21 by 2 dirty ones", y.mean(0, 1, 0), y.mean(0, 1, 1), 21, 2);
        CardCups both = once("cups 1 2;", "turn by 4;put by 4;take by 8 if in=4;");
        fraction("of both cards, clean ones", both.mean(0, 0, 0), both.mean(0, 0, 1), 31, 32);
        CardCups clean = once("cups 1 2;card 1;", "");
        fraction("of the clean card", clean.mean(0, 1, 0), clean.mean(0, 1, 1), 2, 1);
        CardCups z = onePart("cups 1 0;", "put if warm=0;");
        fraction("one PART of a dirty one", z.mean(2, 1, 0), z.mean(2, 1, 1), 1, ONE);
        fraction("a clean one", z.mean(2, 0, 0), z.mean(2, 0, 1), 1, 1);
        Doc.section("Promise 17");
        Doc.says("How often the card is TRUE behind VISITS, on the mean of all (0 by 1: no VISITS).");
        CardCups none = Check.made("card 1;person;");
        fraction("no VISITS", none.often(0), none.often(1), 0, 1);
        CardCups always = Check.made("card 1;person;" + Check.times(24, "comes 0 0;"));
        fraction("always", always.often(0), always.often(1), 1, 1);
        CardCups never = Check.made("person;" + Check.times(24, "comes 0 0;"));
        fraction("never", never.often(0), never.often(1), 0, 1);
        CardCups last = Check.made("person;" + Check.times(24, "comes 0 0;"), "turn if visit=24;");
        fraction("once of 24", last.often(0), last.often(1), 1, 24);
        CardCups part = onePart("cups 1 0;", "turn if warm=0;");
        fraction("by one PART, once of 3", part.often(0), part.often(1), 1, 3 * ONE);
        CardCups third = Check.made("card 1;person;" + Check.times(3, "comes 0 0;"), "put by 3 if visit=1;");
        fraction("by 13 of 16", third.often(0), third.often(1), 13, 16);
    }

    private static void since() {
        Doc.section("Promise 18");
        Doc.says("The first VISIT behind which the card is TRUE by less than half of all PARTS; NONE.");
        Check.due("no VISITS", new CardCups().since(), -1);
        Check.due("no VISITS, not TRUE", Check.made("person;").since(), -1);
        Check.due("the first one", once("", "").since(), 0);
        Check.due("half", once("card 1;", "turn by 8;").since(), -1);
        Check.due("9 of 16 are not", once("card 1;", "turn by 9;").since(), 0);
        Check.due("half, to the PART", onePart("cups 1 0;card 1;", "turn by 8 if warm=1;turn if warm=0;").since(), -1);
        Check.due("half less one PART", onePart("cups 1 0;card 1;", "turn;turn by 8 if warm=1;").since(), 2);
        CardCups x = Check.made("card 1;person;" + Check.times(24, "comes 0 0;"), "turn if visit=24;");
        Check.due("the last one", x.since(), 23);
        CardCups y = Check.made("card 1;person;" + Check.times(3, "comes 0 0;"), "turn if visit>1;");
        Check.due("once, and then TRUE again", y.since(), 1);
    }

    private static void drunkAndDone() {
        Doc.section("Promise 19");
        Doc.says("What a PERSON drank: DRUNK by ONE.");
        CardCups x = Check.made("machine 12;cups 0 12;person;person;person;comes 0 0;comes 1 0;", "take by 1;", Check.times(8, "take;"), "take;");
        fraction("by 1 of 16", x.drunk(0, 0), x.drunk(0, 1), 1, 16);
        fraction("eight", x.drunk(1, 0), x.drunk(1, 1), 8, 1);
        fraction("who does not come", x.drunk(2, 0), x.drunk(2, 1), 0, 1);
        CardCups one = onePart("cups 1 0;", "put if warm=0;take if warm=0;take if warm=0;");
        fraction("one PART, the clean one first", one.drunk(1, 0), one.drunk(1, 1), 1, ONE);
        Check.due("it is out then", one.state(2, 0, 0, 0), 1);
        Check.due("no PART is lost", sumOfAll(one), ONE);
        CardCups six = Check.made(Check.times(6, "person;") + "cups 0 1;comes 5 0;", "", "", "", "", "", "take;");
        fraction("the 6th", six.drunk(5, 0), six.drunk(5, 1), 1, 1);
        fraction("the 5th", six.drunk(4, 0), six.drunk(4, 1), 0, 1);
        Doc.section("Promise 20");
        Doc.says("WASHED (what 0), LOOKS (1) of all by ONE.");
        CardCups y = Check.made("cups 3 0;person;person;comes 0 0;comes 1 0;", "start;look by 8;", "start by 8;look;");
        fraction("WASHED", y.done(0, 0), y.done(0, 1), 9, 2);
        fraction("LOOKS", y.done(1, 0), y.done(1, 1), 3, 2);
        fraction("nothing WASHED", once("", "").done(0, 0), once("", "").done(0, 1), 0, 1);
        fraction("no LOOKS", once("", "").done(1, 0), once("", "").done(1, 1), 0, 1);
        fraction("no VISITS", new CardCups().done(0, 0), new CardCups().done(0, 1), 0, 1);
        Doc.section("Promise 21");
        Doc.says("COST.");
        fraction("no VISITS", new CardCups().cost(0), new CardCups().cost(1), 0, 1);
        CardCups one2 = onePart("cost 0 0 99 0 0;cups 1 0;", "look if warm=0;");
        fraction("a look of one PART", one2.cost(0), one2.cost(1), 99, ONE);
        CardCups most = Check.made("machine 12;cups 12 0;cost 99 99 99 99 99;person;" + Check.times(24, "comes 0 0;"), Check.times(8, "start;"));
        fraction("the most", most.cost(0), most.cost(1), 99 * 12 * 8 * 24, 1);
    }

    private static void given() {
        Doc.section("Promise 22");
        Doc.says("How likely all the BOOK is: PARTS left behind the last VISIT by ONE.");
        fraction("no BOOK, no VISITS", new CardCups().fits(0), new CardCups().fits(1), 1, 1);
        CardCups none = Check.made("person;");
        Check.book(none, "0 in 12;");
        fraction("a BOOK, no VISITS", none.fits(0), none.fits(1), 1, 1);
        CardCups x = Check.made("person;comes 0 0;comes 0 0;", "turn by 3;");
        Check.book(x, "1 card 1;");
        fraction("3 by 16", x.fits(0), x.fits(1), 3, 16);
        Check.book(x, "0 card 1;");
        fraction("none", x.fits(0), x.fits(1), 0, 1);
        Doc.section("Promise 23");
        Doc.says("GIVEN the BOOK's lines to a VISIT, as it begins: how likely (what as in likely(), WARM in its MINUTE); 0 by 1, if none fits.");
        CardCups y = Check.made("machine 2;warm 5;cups 1 0;person;comes 0 0;comes 0 4;comes 0 5;", "start by 4 if visit=1;put by 8 if visit=1;turn by 4;");
        long[][] due = {{1, 1, 0, 1, 0, 1, 0, 1, 0, 1, 0, 1}, {1, 2, 1, 2, 1, 4, 1, 4, 0, 1, 1, 2}, {1, 2, 1, 2, 0, 1, 3, 8, 0, 1, 1, 2}};
        for (int v = 0; v < 3; v++) {
            for (int w = 0; w < 6; w++) fraction("given " + v + " " + w, y.given(v, w, 0), y.given(v, w, 1), due[v][2 * w], due[v][2 * w + 1]);
        }
        Check.book(y, "1 in 2;");
        fraction("full for sure", y.given(1, 5, 0), y.given(1, 5, 1), 1, 1);
        fraction("as likely as not, ahead of it", y.given(0, 5, 0), y.given(0, 5, 1), 0, 1);
        fraction("still full", y.given(2, 5, 0), y.given(2, 5, 1), 1, 1);
        Check.book(y, "1 in 0;");
        for (int w = 0; w < 6; w++) {
            fraction("none fits, " + w, y.given(1, w, 0), y.given(1, w, 1), 0, 1);
            fraction("none went on, " + w, y.given(2, w, 0), y.given(2, w, 1), 0, 1);
        }
        Doc.section("Promise 24");
        Doc.says("BEST as a VISIT begins; NONE: no PARTS fit.");
        Check.due("VISIT 0", y.best(0), 0);
        Check.due("VISIT 1", y.best(1), -1);
        Check.due("VISIT 2", y.best(2), -1);
        Doc.section("Promise 25");
        Doc.says("What one of the four (0 to 3) costs then, by PARTS (0 by 1: none fit).");
        for (int w = 0; w < 4; w++) way("none fit, " + w, y, 1, w, 0, 1);
        CardCups z = Check.made("cost 8 1 1 3 2;see 16;cups 1 1;person;comes 0 0;comes 0 0;", "take;");
        long[] before = {4, 1, 3, 1, 4, 1, 3, 1};
        for (int w = 0; w < 4; w++) way("ahead of the STEPS, " + w, z, 0, w, before[2 * w], before[2 * w + 1]);
        // half clean, half dirty
        long[] then = {4, 1, 3, 1, 5, 2, 5, 2};
        for (int w = 0; w < 4; w++) way("then, " + w, z, 1, w, then[2 * w], then[2 * w + 1]);
        Doc.section("Promise 26");
        Doc.says("GAIN, by PARTS (0 by 1: none fit).");
        gain("none fit", y, 1, 0, 1);
        gain("ahead of the STEPS", z, 0, 0, 1);
        gain("then", z, 1, 1, 2);
        // by the PARTS that fit: of a quarter of all
        CardCups u = Check.made("cost 8 1 1 3 2;see 16;cups 1 1;person;comes 0 0;comes 0 0;", "take;turn by 4;");
        Check.book(u, "1 card 1;");
        gain("of a quarter", u, 1, 1, 2);
        way("TAKE of a quarter", u, 1, 0, 4, 1);
    }

    private static void answersOfChange() {
        Doc.section("Promise 27");
        Doc.says("WITHOUT a PERSON: PARTS by which the card is TRUE behind the last VISIT (as told, without VISITS; what 0), COST by ONE, cut (1).");
        CardCups x = Check.made("person;person;person;comes 1 0;comes 2 1;", "", "put;turn by 4;look by 15;look by 15;look by 2;", "look by 1;");
        Check.due("TRUE without 0", x.without(0, 0), ONE / 4 * 3);
        Check.due("COST of 33 by 16, cut", x.without(0, 1), 2);
        Check.due("COST of 32 by 16", x.without(2, 1), 2);
        Check.due("TRUE without 1", x.without(1, 0), 0);
        Check.due("COST of 1 by 16, cut", x.without(1, 1), 0);
        CardCups none = Check.made("card 1;person;");
        Check.due("no VISITS: as told", none.without(0, 0), ONE);
        Check.due("no VISITS: COST", none.without(0, 1), 0);
        Doc.section("Promise 28");
        Doc.says("KEEPER; NONE: no PEOPLE.");
        Check.due("no PEOPLE", new CardCups().keeper(), -1);
        Check.due("one PERSON", Check.made("person;").keeper(), 0);
        Check.due("the 6th", Check.made(Check.times(6, "person;") + "comes 5 0;", "", "", "", "", "", "clean;").keeper(), 5);
        Doc.section("Promise 29");
        Doc.says("SPOILER; NONE: no PEOPLE.");
        Check.due("no PEOPLE", new CardCups().spoiler(), -1);
        Check.due("one PERSON", Check.made("person;").spoiler(), 0);
        Check.due("the 6th", Check.made(Check.times(6, "person;") + "comes 5 0;", "", "", "", "", "", "look;").spoiler(), 5);
        Doc.section("Promise 30");
        Doc.says("PARTS by which the card is TRUE behind the last VISIT (as told, without VISITS).");
        CardCups y = once("card 1;fall 7;", "");
        for (int q = 0; q <= 16; q++) Check.due("falling " + q, y.falling(q), ONE / 16 * (16 - q));
        Check.due("as it is", y.likely(0, 1), ONE / 16 * 9);
        Check.due("as told: TRUE", Check.made("card 1;person;").falling(16), ONE);
        nothingElseIsOther();
        Check.due("as told: not", Check.made("person;").falling(0), 0);
        Doc.section("Promise 31");
        Doc.says("COST.");
        CardCups z = once("cost 0 0 1 0 0;cups 0 1;see 5;", "look;look if seen=1;");
        for (int k = 0; k <= 16; k++) {
            Check.due("seeing " + k, z.seeing(k, 0) * (16 / z.seeing(k, 1)), 16 + k);
        }
        fraction("in least terms", z.seeing(4, 0), z.seeing(4, 1), 5, 4);
        fraction("as it is", z.cost(0), z.cost(1), 21, 16);
        fraction("no VISITS", new CardCups().seeing(16, 0), new CardCups().seeing(16, 1), 0, 1);
        Doc.section("Promise 32");
        Doc.says("COST.");
        CardCups f = once("cups 3 0;", "put by 8;");
        fraction("k 3", f.filled(3, 0), f.filled(3, 1), 3, 1);
        fraction("k 4", f.filled(4, 0), f.filled(4, 1), 3, 2);
        fraction("k 5", f.filled(5, 0), f.filled(5, 1), 0, 1);
        fraction("no VISITS", Check.made("cups 3 0;").filled(1, 0), Check.made("cups 3 0;").filled(1, 1), 0, 1);
        Doc.section("Promise 33");
        Doc.says("BEST FILL.");
        Check.due("4, since it may be fuller", f.fill(), 5);
        Check.due("no VISITS", Check.made("machine 12;cups 3 0;").fill(), 1);
        Doc.section("Promise 34");
        Doc.says("RULED: PARTS by which the card is TRUE behind the last VISIT (what 0; as told, without VISITS), COST by ONE, cut (1).");
        CardCups r = once("", "look;");
        Check.rule(r, "look by 15;look by 1;turn by 1;");
        Check.due("COST of 16 by 16", r.ruled(1), 1);
        Check.due("TRUE", r.ruled(0), ONE / 16);
        Check.rule(r, "look by 15;turn by 15;");
        Check.due("COST of 15 by 16, cut", r.ruled(1), 0);
        Check.due("TRUE", r.ruled(0), ONE / 16 * 15);
        CardCups told = Check.made("card 1;person;");
        Check.rule(told, "turn;look;");
        Check.due("no VISITS: as told", told.ruled(0), ONE);
        Check.due("no VISITS: COST", told.ruled(1), 0);
        Doc.section("Promise 35");
        Doc.says("SWAPPED: COST.");
        CardCups s = Check.made("person;person;comes 0 0;", "look by 3;", "look by 12;");
        fraction("in least terms", s.swapped(0, 1, 0), s.swapped(0, 1, 1), 3, 4);
        fraction("turned round", s.swapped(1, 0, 0), s.swapped(1, 0, 1), 3, 4);
        fraction("as it is", s.cost(0), s.cost(1), 3, 16);
    }

    /** With another Q, K is as told, and so on: a dirty one by K 5 of 16 seen, a card by Q 3 of 16 clean. */
    private static void nothingElseIsOther() {
        String habit = "look;look if seen=1 and card=1;turn if seen=1;";
        CardCups x = Check.made("machine 2;fall 3;see 5;cost 0 0 16 0 0;cups 0 1;person;person;comes 0 0;", habit, habit);
        Check.rule(x, habit);
        for (int n = 0; n <= 16; n++) {
            // TRUE: it says dirty: fallen and seen, or neither
            Check.due("K with Q " + n, x.falling(n), ONE / 256 * (n * 5 + (16 - n) * 11));
            fraction("Q with K " + n, x.seeing(n, 0) * (16 / x.seeing(n, 1)), 16, 256 + 3 * n, 16);
        }
        Check.due("Q and K with a STARTER", x.filled(12, 0) * (16 / x.filled(12, 1)), 256 + 15);
        Check.due("Q and K without another one", x.without(1, 0), ONE / 256 * (15 + 13 * 11));
        Check.due("Q and K by the RULE", x.ruled(0), ONE / 256 * (15 + 13 * 11));
        Check.due("Q and K of those swapped", x.swapped(0, 1, 0) * (16 / x.swapped(0, 1, 1)), 256 + 15);
        Check.due("Q and K as it is", x.cost(0) * (16 / x.cost(1)), 256 + 15);
        // a STARTER by 1 to 5 would wash the clean ones again
        CardCups y = Check.made("machine 12;cups 5 0;person;person;comes 0 0;");
        for (int n = 0; n <= 16; n++) Check.due("no STARTER with K " + n, y.seeing(n, 0), 0);
        Check.due("no STARTER without another one", y.without(1, 1), 0);
        Check.due("no STARTER by the RULE", y.ruled(1), 0);
        Check.due("no STARTER of those swapped", y.swapped(0, 1, 0), 0);
    }

    private static void swap() {
        Doc.section("Promise 36");
        Doc.says("The two by whose being SWAPPED the COST is least, if it is less than as it is:"
            + " 10 times the lesser one, and the other one, of these the least; NONE.");
        Check.due("no PEOPLE", new CardCups().swap(), -1);
        Check.due("one PERSON", once("", "look;").swap(), -1);
        String two = "person;person;comes 0 0;";
        Check.due("as it is", Check.made(two, "look;", "look;").swap(), -1);
        Check.due("dearer", Check.made(two, "look;", "look;look;").swap(), -1);
        Check.due("less by one of 16", Check.made(two, "look by 16;", "look by 15;").swap(), 1);
        Check.due("more by one of 16", Check.made(two, "look by 15;", "look by 16;").swap(), -1);
        String six = Check.times(6, "person;") + "comes 4 0;";
        Check.due("all of these alike", Check.made(six, "", "", "", "", "look;", "").swap(), 4);
        Check.due("1 of these", Check.made(six, "look;", "", "look;", "", "look;", "").swap(), 14);
        Check.due("4 and 5", Check.made(six, "look;", "look;", "look;", "look;", "look;", "").swap(), 45);
        Check.due("the least of all", Check.made(six, "look by 2;", "look by 1;", "look by 1;", "look by 3;", "look by 4;", "look by 5;").swap(), 14);
    }

    private static void day() {
        Doc.section("Promise 37");
        Doc.says("A DAY by a SEED behind a VISIT: 0 clean, 1 dirty ones, 2 the card, 3 how many dirty ones were drunk from by then,"
            + " 4 washed again, 5 looks, 6 the VISIT in which it was started last (NONE).");
        CardCups x = Check.made("machine 12;cups 3 4;person;person;comes 0 0;comes 1 0;comes 0 0;", "look;turn;", "start;take;start;look;");
        int[][] due = {{3, 4, 1, 0, 0, 1, -1}, {6, 0, 1, 0, 9, 2, 1}, {6, 0, 0, 0, 9, 3, 1}};
        for (int v = 0; v < 3; v++) {
            for (int w = 0; w < 7; w++) {
                Check.due("day " + v + " " + w, x.day(5, v, w), due[v][w]);
                Check.due("of the least SEED " + v + " " + w, x.day(Integer.MIN_VALUE, v, w), due[v][w]);
                Check.due("of the most " + v + " " + w, x.day(Integer.MAX_VALUE, v, w), due[v][w]);
            }
        }
        CardCups y = Check.made("machine 12;cups 0 12;person;comes 0 0;comes 0 0;", Check.times(8, "take;"));
        Check.due("eight drunk from", y.day(5, 0, 3), 8);
        Check.due("and all of them", y.day(5, 1, 3), 12);
        Check.due("none is left", y.day(5, 1, 1), 0);
        CardCups z = Check.made("cups 1 0;person;" + Check.times(24, "comes 0 0;"), "start;");
        Check.due("started in the first one", z.day(5, 0, 6), 0);
        Check.due("started in the last one", z.day(5, 23, 6), 23);
        Check.due("washed again in each", z.day(5, 23, 4), 24);
    }

    private static void span() {
        Doc.section("Promise 38");
        Doc.says("seed, seed and 1, ..), behind the last VISIT (as told, without VISITS): 0 by how many the card is TRUE,"
            + " 1 dirty ones drunk from in all, 2 the most by one of them.");
        int[] first = {0, -20, Integer.MAX_VALUE, Integer.MAX_VALUE - 1, Integer.MIN_VALUE};
        for (int seed : first) {
            for (int many = 1; many <= 40; many += 13) {
                spanOf(Check.made("machine 12;cups 5 7;person;comes 0 0;comes 0 0;", "take;take;turn by 8;"), seed, many);
            }
        }
        CardCups told = Check.made("cups 0 3;person;");
        Check.due("no VISITS: as told", told.span(1, 40, 0), 40);
        Check.due("nothing drunk from", told.span(1, 40, 1) + told.span(1, 40, 2), 0);
        Check.due("no VISITS, not TRUE", Check.made("cups 0 3;card 1;").span(1, 40, 0), 0);
        CardCups full = Check.made("machine 12;cups 0 12;person;comes 0 0;comes 0 0;", Check.times(8, "take;"));
        Check.due("twelve by each of 40", full.span(1, 40, 1), 480);
        Check.due("twelve by one", full.span(1, 40, 2), 12);
        Check.due("twelve by one of one", full.span(1, 1, 1), 12);
    }

    private static void spanOf(CardCups x, int seed, int many) {
        int trues = 0;
        int drunk = 0;
        int most = 0;
        for (int i = 0; i < many; i++) {
            int one = x.day(seed + i, 1, 3);
            boolean dirty = x.day(seed + i, 1, 1) > 0;
            trues += x.day(seed + i, 1, 2) == (dirty ? 0 : 1) ? 1 : 0;
            drunk += one;
            most = Math.max(most, one);
        }
        Check.due("TRUE, " + seed + " " + many, x.span(seed, many, 0), trues);
        Check.due("in all, " + seed + " " + many, x.span(seed, many, 1), drunk);
        Check.due("by one, " + seed + " " + many, x.span(seed, many, 2), most);
    }
}
