/** For each promise of the document what it says, at its edges too, and what it refuses; the numbers are reckoned by hand. */
public final class PromisesTest {
    private static final long ONE = Check.ONE;

    /** Two PEOPLE; the machine's numbers are all unlike those without a CLAUSE. */
    private static final String DESK = "machine 4;cups 1 1;card 1;see 8;fall 0;warm 20;cost 9 1 1 3 2;"
        + "person;person;comes 0 10;comes 0 60;comes 1 30;";
    private static final String PUTS = "put;dirty if card = 1;";
    private static final String CARES = "look;start if seen = 1;take by 8;";
    private static final String DAYS = "machine 4;cups 1 2;card 0;fall 4;see 8;warm 20;person;comes 0 0;comes 0 10;";
    private static final String DAILY = "take;look;start by 8 if seen = 1;";

    private static CardCups desk() {
        return Check.made(DESK, PUTS, CARES);
    }

    /** One PERSON, one VISIT: what the machine is like behind it. */
    private static CardCups once(String told, String habit) {
        return Check.made(told + "person;comes 0 0;", habit);
    }

    public static void main(String[] args) {
        newObject();
        feeding();
        officeDefaults();
        officeClauses();
        officeFaults();
        officeLimits();
        officeAnew();
        officeRefused();
        habits();
        habitFaults();
        conditions();
        rule();
        book();
        faultPlace();
        told();
        visits();
        people();
        prices();
        statesMany();
        likely();
        acts();
        cuts();
        likeliest();
        mean();
        often();
        since();
        drunk();
        done();
        cost();
        fits();
        given();
        best();
        worth();
        gain();
        without();
        keeperAndSpoiler();
        falling();
        seeing();
        filled();
        fill();
        ruled();
        swapped();
        swap();
        day();
        span();
        come();
        skip();
        shift();
        teach();
        undo();
        images();
        status();
        count();
        reckonedAnew();
        Check.end();
    }

    // ---- 1, 2 ----

    private static void newObject() {
        Check.part("promise 1");
        CardCups x = new CardCups();
        int[] due = {8, 0, 0, 0, 0, 30, 12, 0, 0, 0};
        for (int i = 0; i < due.length; i++) Check.due("told " + i, x.told(i), due[i]);
        int[] price = {9, 1, 1, 3, 2};
        for (int i = 0; i < price.length; i++) Check.due("price " + i, x.price(i), price[i]);
        Check.due("fault", x.fault(), -1);
        for (int i = 0; i < 3; i++) Check.due("count " + i, x.count(i), 0);
        for (int i = 0; i < 2; i++) Check.due("status " + i, x.status(i), 0);
        Check.due("NONE", CardCups.NONE, -1);
        Check.due("falling", x.falling(3), 0);
        Check.due("restore", x.restore(), -1);
    }

    private static void feeding() {
        Check.part("promise 2");
        CardCups x = new CardCups();
        // "card 1; fall 3;" and five blanks
        Check.due("feed", x.feed(0x63617264, 0x20313b20, 0x66616c6c, 0x20333b20, 0x20202020), 20);
        Check.due("office", x.office(20), 0);
        Check.due("the card", x.told(3), 1);
        Check.due("Q of falling", x.told(4), 3);
        for (int i = 1; i <= 30; i++) {
            Check.due("feed " + i, x.feed(0x20202020, 0x20202020, 0x20202020, 0x20202020, 0x20202020), 20 * i);
        }
        Check.due("a feed too many", x.feed(0x26262626, 0, 0, 0, 0), -1);
        Check.due("bytes", x.count(1), 600);
        Check.due("office of blanks", x.office(600), 0);
        Check.due("empty then", x.count(1), 0);
        Check.due("room again", x.feed(0, 0, 0, 0, 0), 20);
        Check.due("bytes above 127", x.feed(-1, -1, -1, -1, -1), 40);
        Check.due("office of them", x.office(40), -9);
        Check.due("its FAULT", x.fault(), 0);
    }

    // ---- 3 ----

    private static void officeDefaults() {
        Check.part("promise 3, defaults");
        CardCups x = desk();
        Check.due("office of nothing", x.office(0), 0);
        int[] due = {8, 0, 0, 0, 0, 30, 12, 0, 0, 0};
        for (int i = 0; i < due.length; i++) Check.due("told " + i, x.told(i), due[i]);
        int[] price = {9, 1, 1, 3, 2};
        for (int i = 0; i < price.length; i++) Check.due("price " + i, x.price(i), price[i]);
    }

    private static void officeClauses() {
        Check.part("promise 3, clauses");
        CardCups x = new CardCups();
        String text = " machine 12 ;cups 7 5;cups 0012 0;card 1;card 0;card1;fall 16;warm 1;warm99;see 0;see 16;"
            + "cost 1 2 3 4 5;cost 99 0 98 7 6;person;comes 0 480;person ; comes 1 0;comes 0 480;comes1 480; ";
        Check.due("office", Check.office(x, text), 4);
        int[] due = {12, 12, 0, 1, 16, 99, 16, 2, 4, 0};
        for (int i = 0; i < due.length; i++) Check.due("told " + i, x.told(i), due[i]);
        int[] price = {99, 0, 98, 7, 6};
        for (int i = 0; i < price.length; i++) Check.due("price " + i, x.price(i), price[i]);
        int[] who = {1, 0, 0, 1};
        int[] when = {0, 480, 480, 480};
        for (int v = 0; v < 4; v++) {
            Check.due("who comes " + v, x.visit(v, 0), who[v]);
            Check.due("when " + v, x.visit(v, 1), when[v]);
        }
        Check.due("without a machine 8 are held", Check.office(x, "cups 3 5;"), 0);
        Check.due("dirty ones", x.told(2), 5);
    }

    private static void officeFault(String text, int kind, int place) {
        CardCups x = new CardCups();
        Check.due("office " + text, Check.office(x, text), kind - 10);
        Check.due("FAULT of " + text, x.fault(), place);
        Check.due("the TAPE behind " + text, x.count(1), 0);
    }

    private static void officeFaults() {
        Check.part("promise 3, FAULTS");
        officeFault("machine 0;", 2, 8);
        officeFault("machine 13;", 2, 8);
        officeFault("machine 99999999999999999999;", 2, 8);
        officeFault("machine 4294967297;", 2, 8);
        officeFault("machine;", 1, 7);
        officeFault("machine 4 4;", 1, 10);
        officeFault("machine 4", 1, 9);
        officeFault("machine 4   ", 1, 12);
        officeFault("machines 4;", 1, 0);
        officeFault("Machine 4;", 1, 0);
        officeFault("  mach ine 4;", 1, 2);
        officeFault(";", 1, 0);
        officeFault("person;;", 1, 7);
        officeFault("7;", 1, 0);
        officeFault("card 1;machine 4;", 4, 7);
        officeFault("machine 4; machine 4;", 4, 11);
        officeFault("cups 9 0;", 2, 5);
        officeFault("cups 9;", 2, 5);
        officeFault("cups 4 5;", 2, 7);
        officeFault("machine 3;cups 4 0;", 2, 15);
        officeFault("machine 3;cups 2 2;", 2, 17);
        officeFault("cups 1;", 1, 6);
        officeFault("card 2;", 2, 5);
        officeFault("card -1;", 1, 5);
        officeFault("card \u00311;", 2, 5);
        officeFault("fall 17;", 2, 5);
        officeFault("warm 0;", 2, 5);
        officeFault("warm 100;", 2, 5);
        officeFault("see 17;", 2, 4);
        officeFault("cost 1 2 3 4;", 1, 12);
        officeFault("cost 100 2 3 4 5;", 2, 5);
        officeFault("cost 1 2 3 4 100;", 2, 13);
        officeFault("cost 1 2 3 4 5 6;", 1, 15);
        officeFault("comes 0 5;", 2, 6);
        officeFault("comes ;", 1, 6);
        officeFault("person;comes 1 5;person;", 2, 13);
        officeFault("person;comes 0 481;", 2, 15);
        officeFault("person;comes 0 5\t;", 1, 16);
        officeFault("person", 1, 6);
        officeFault("card 1;\u00e9", 1, 7);
        // the first from the left counts, whichever it is
        officeFault("card 2;machine 4;&", 2, 5);
    }

    private static void officeLimits() {
        Check.part("promise 3, limits");
        officeFault(Check.times(7, "person;"), 3, 42);
        Check.due("six PEOPLE", Check.office(new CardCups(), Check.times(6, "person;")), 0);
        String full = "person;" + Check.times(24, "comes 0 1;");
        Check.due("24 VISITS", Check.office(new CardCups(), full), 24);
        officeFault(full + " comes 0 1;", 3, 248);
        officeFault(full + "comes 0 481;", 3, 247);
        officeFault(full + "come 0 481;", 1, 247);
        String sixty = Check.times(60, "card 1;");
        CardCups x = new CardCups();
        Check.due("60 CLAUSES", Check.office(x, sixty), 0);
        Check.due("the card", x.told(3), 1);
        officeFault(sixty + "card 2;", 3, 420);
        officeFault(sixty + "machine 9;", 3, 420);
        officeFault(sixty + "cart 1;", 1, 420);
        officeFault(sixty + "  ;", 1, 422);
    }

    private static void officeAnew() {
        Check.part("promise 3, anew");
        CardCups x = desk();
        Check.rule(x, "turn;");
        Check.book(x, "0 card 1;");
        x.come(0, 5);
        x.image();
        x.cost(0);
        Check.due("office", Check.office(x, DESK), 3);
        Check.due("no HABIT", x.person(0, 0) + x.person(1, 0), 0);
        Check.due("no BOOK", x.told(9), 0);
        Check.due("no RULE", x.ruled(0), ONE * 0);
        Check.due("no IMAGES", x.count(0), 0);
        Check.due("nothing to undo", x.undo(), -1);
        Check.due("no IMAGE to restore", x.restore(), -1);
        Check.due("nobody does anything", x.cost(0), 0);
    }

    private static void officeRefused() {
        Check.part("promise 3, refused");
        CardCups x = desk();
        Check.book(x, "0 card 1;");
        x.come(0, 5);
        x.image();
        long cost = x.cost(0);
        Check.due("a FAULT", Check.office(x, "machine 12;cups 3 3;cost 1 1 1 1 1;person;person;person;oh"), -9);
        Check.due("its place", x.fault(), 56);
        Check.due("held as before", x.told(0), 4);
        Check.due("PEOPLE as before", x.told(7), 2);
        Check.due("VISITS as before", x.told(8), 4);
        Check.due("lines as before", x.told(9), 1);
        Check.due("HABIT as before", x.person(0, 0), 2);
        Check.due("IMAGES as before", x.count(0), 1);
        Check.due("changes as before", x.count(2), 1);
        Check.due("COST as before", x.cost(0), cost);
        Check.feed(x, "card 1;");
        Check.illegal("n below 0", () -> x.office(-1));
        Check.illegal("n above", () -> x.office(21));
        Check.due("the TAPE stays", x.count(1), 20);
        Check.due("and the place of the FAULT", x.fault(), 56);
        Check.due("refused", x.status(1), 2);
        Check.due("the first bytes alone", x.office(7), 0);
        Check.due("no FAULT", x.fault(), -1);
        Check.due("the card", x.told(3), 1);
    }

    // ---- 4 ----

    private static void habits() {
        Check.part("promise 4");
        CardCups x = Check.made(DESK);
        Check.due("all ACTS", Check.habit(x, 0, "put;take;look;start;empty;clean;dirty;turn;"), 8);
        Check.due("its STEPS", x.person(0, 0), 8);
        Check.due("the other one's", x.person(1, 0), 0);
        Check.due("blanks", Check.habit(x, 1, "  put by 16 if in<1 ; take by1if card=1;  "), 2);
        Check.due("nothing", Check.habit(x, 1, ""), 0);
        Check.due("its STEPS", x.person(1, 0), 0);
        Check.feed(x, Check.times(160, " "));
        Check.missing("PERSON 2", () -> x.habit(2, 1));
        Check.missing("PERSON 2, and n", () -> x.habit(2, 151));
        Check.missing("PERSON -1", () -> x.habit(-1, 1));
        Check.illegal("151 bytes", () -> x.habit(0, 151));
        Check.illegal("-1 bytes", () -> x.habit(0, -1));
        Check.due("the TAPE stays", x.count(1), 160);
        Check.due("the HABIT stays", x.person(0, 0), 8);
        Check.due("150 bytes", x.habit(0, 150), 0);
        Check.due("the TAPE is empty", x.count(1), 0);
        Check.illegal("more than the TAPE has", () -> x.habit(0, 1));
        // as many orders as 150 bytes can hold
        String longest = "put if 1" + Check.times(69, "+1") + "=70;";
        Check.due("a long C", Check.habit(x, 0, longest), 1);
        Check.due("is so", x.state(0, 1, 2, 1), ONE);
    }

    private static void habitFault(String text, int kind, int place) {
        CardCups x = desk();
        Check.due("habit " + text, Check.habit(x, 0, text), kind - 10);
        Check.due("FAULT of " + text, x.fault(), place);
        Check.due("the TAPE behind " + text, x.count(1), 0);
        Check.due("STEPS behind " + text, x.person(0, 0), 2);
        Check.due("rule " + text, Check.rule(x, text), kind - 10);
        Check.due("FAULT of the rule " + text, x.fault(), place);
    }

    private static void habitFaults() {
        Check.part("promise 4, FAULTS");
        habitFault("pour;", 1, 0);
        habitFault("putt;", 1, 0);
        habitFault("putz;", 1, 0);
        habitFault("aput;", 1, 0);
        habitFault("put byz 3;", 1, 4);
        habitFault("put{;", 1, 3);
        habitFault("put`;", 1, 3);
        habitFault("put by 3/;", 1, 8);
        habitFault("put by 3:;", 1, 8);
        habitFault("put", 1, 3);
        habitFault("put  ", 1, 5);
        habitFault("put take;", 1, 4);
        habitFault("put by;", 1, 6);
        habitFault("put by 0;", 2, 7);
        habitFault("put by 17;", 2, 7);
        habitFault("put if 1=1 by 3;", 1, 11);
        habitFault("put by 3 by 3;", 1, 9);
        habitFault("put if;", 1, 6);
        habitFault("put if card;", 1, 11);
        habitFault("put if card =;", 1, 13);
        habitFault("put if card == 1;", 1, 13);
        habitFault("put if cards = 1;", 1, 7);
        habitFault("put if 1000 = 1;", 2, 7);
        habitFault("put if 1 = 1000;", 2, 11);
        habitFault("put if 1 = 1 or;", 1, 15);
        habitFault("put if 1 = 1 and or 1 = 1;", 1, 17);
        habitFault("put if or 1 = 1;", 1, 7);
        habitFault("put if 1 = 1 xor 1 = 1;", 1, 13);
        habitFault("put if 1 = 2 = 3;", 1, 13);
        habitFault("put if 1 + = 2;", 1, 11);
        habitFault("put if - 1 = 2;", 1, 7);
        habitFault("put if (1 = 1);", 1, 10);
        habitFault("put if [1];", 1, 9);
        habitFault("put if [1=1;", 1, 11);
        habitFault("put if [1=1);", 1, 11);
        habitFault("put if (1=1;", 1, 9);
        habitFault("put if (1]=1;", 1, 9);
        habitFault("put if not;", 1, 10);
        habitFault("put if 1 = not 1;", 1, 11);
        habitFault("put if 1 = [1];", 1, 11);
        habitFault("put if [[[[[[[1=1]]]]]]];", 3, 13);
        habitFault("put if 1 = (((((((1)))))));", 3, 17);
        habitFault("put if " + Check.times(7, "not ") + "1=1;", 3, 31);
        habitFault("put if not [not [not ((1)) = 1]];", 3, 22);
        habitFault("put if not [not [not (1 + [1]) = 1]];", 1, 26);
        habitFault(Check.times(8, "put;") + " take;", 3, 33);
        habitFault(Check.times(8, "put;") + " takes;", 1, 33);
        habitFault(Check.times(8, "put;") + "take by 99;", 3, 32);
    }

    /** Whether a C is so in the one VISIT, in MINUTE 7, of cups 2 and 1 of 5, the card as told. */
    private static void so(String condition, boolean due) {
        CardCups x = Check.made("machine 5;cups 2 1;card 1;person;comes 0 7;", "empty if " + condition + ";");
        Check.due(condition, x.likely(0, 4), due ? ONE : 0);
    }

    private static void conditions() {
        Check.part("terms 1, a C");
        so("1 = 1", true);
        so("1 < 1", false);
        so("1 > 1", false);
        so("1 < 2", true);
        so("2 > 1", true);
        so("not 1 = 1", false);
        so("not not 1 = 1", true);
        so("1=2 or 1=1", true);
        so("1=1 or 1=1 and 1=2", true);
        so("[1=1 or 1=1] and 1=2", false);
        so("not 1=2 and 1=1", true);
        so("not 1=1 or 1=1", true);
        so("not [1=1 or 1=1]", false);
        so("1=2 and 1=2 or 1=1", true);
        so("1 + 2 * 3 = 7", true);
        so("(1 + 2) * 3 = 9", true);
        so("9 - 2 - 3 = 4", true);
        so("9 - (2 - 3) = 10", true);
        so("2 * 3 * 4 = 24", true);
        so("0 - 1 < 0", true);
        so("card = 1", true);
        so("warm = 0", true);
        so("in = 3", true);
        so("room = 2", true);
        so("minute = 7", true);
        so("seen = 0", true);
        so("last = 999", true);
        so("visit = 1", true);
        so("in - room + card * 7 = 8", true);
        so("999*999*999*999 = 0 - 1", false);
        // 2 to the 32 is 0: (256 * 256) * (256 * 256)
        so("256*256*256*256 = 0", true);
        so("128*256*256*256 < 0", true);
        so("[[[[[[1=1]]]]]]", true);
        so("((((((1)))))) = 1", true);
        so("not not not not not not 1=1", true);
        so("not 1=1 or not not not not not not 1=1", true);
        so("[1=2] or [1=2] or [1=2] or [1=2] or [1=2] or [1=2] or [(1)=(1)]", true);
        words();
    }

    private static void words() {
        Check.part("terms 1, words");
        String told = "machine 4;cups 0 1;warm 20;person;person;comes 0 10;comes 1 20;comes 0 29;comes 0 30;comes 1 30;";
        CardCups x = Check.made(told, "start if visit = 1;turn if visit = 2 and last = 19 and warm = 1;"
            + "empty if visit = 3 and last = 1 and warm = 0;", "clean if last = 10 and minute = 30;");
        Check.due("warm 19 MINUTES behind", x.likely(2, 2), ONE);
        Check.due("turned", x.likely(2, 3), ONE);
        Check.due("not 20 MINUTES behind", x.likely(3, 2), 0);
        Check.due("emptied", x.likely(3, 4), ONE);
        Check.due("started in another's VISIT, none in it", x.likely(4, 3), ONE);
        // what was seen is forgotten behind a VISIT
        CardCups y = Check.made("see 16;cups 0 1;person;comes 0 1;comes 0 2;",
            "turn if seen = 1;look if visit = 1;clean if seen = 1;turn if seen = 1 and visit = 2;");
        Check.due("seen", y.likely(0, 3), ONE);
        Check.due("not seen any more", y.likely(1, 3), ONE);
    }

    // ---- 5, 6, 7 ----

    private static void rule() {
        Check.part("promise 5");
        CardCups x = desk();
        Check.due("rule", Check.rule(x, "put;take by 3 if in > 2;"), 2);
        Check.due("no HABIT", x.person(0, 0), 2);
        Check.feed(x, Check.times(160, " "));
        Check.illegal("151 bytes", () -> x.rule(151));
        Check.illegal("-1 bytes", () -> x.rule(-1));
        Check.due("the TAPE stays", x.count(1), 160);
        Check.due("150 bytes", x.rule(150), 0);
        Check.illegal("more than the TAPE has", () -> x.rule(1));
        Check.due("a FAULT", Check.rule(x, "put"), -9);
        Check.due("a RULE for nobody", Check.rule(new CardCups(), "put;"), 1);
    }

    private static void bookFault(String text, int kind, int place) {
        CardCups x = desk();
        Check.book(x, "0 card 1;");
        Check.due("book " + text, Check.book(x, text), kind - 10);
        Check.due("FAULT of " + text, x.fault(), place);
        Check.due("the TAPE behind " + text, x.count(1), 0);
        Check.due("lines behind " + text, x.told(9), 1);
    }

    private static void book() {
        Check.part("promise 6");
        CardCups x = desk();
        Check.due("ten lines", Check.book(x, Check.times(10, "23 in 12;")), 10);
        Check.due("told", x.told(9), 10);
        Check.due("no blanks", Check.book(x, "0card1;1warm0;2in0;"), 3);
        bookFault("24 card 1;", 2, 0);
        bookFault("card 1;", 1, 0);
        bookFault("0 card 2;", 2, 7);
        bookFault("0 warm 2;", 2, 7);
        bookFault("0 in 13;", 2, 5);
        bookFault("0 wet 1;", 1, 2);
        bookFault("0 1;", 1, 2);
        bookFault("0 in;", 1, 4);
        bookFault("0 in 3", 1, 6);
        bookFault("0 in 3 3;", 1, 7);
        bookFault(Check.times(10, "0 in 3;") + " 0 in 3;", 3, 71);
        bookFault(Check.times(10, "0 in 3;") + "24 in 3;", 2, 70);
        bookFault(Check.times(10, "0 in 3;") + "in 3;", 1, 70);
        bookFault(Check.times(10, "0 in 3;") + "0 on 3;", 3, 70);
        Check.feed(x, Check.times(160, " "));
        Check.illegal("151 bytes", () -> x.book(151));
        Check.illegal("-1 bytes", () -> x.book(-1));
        Check.due("the TAPE stays", x.count(1), 160);
        Check.due("the BOOK stays", x.told(9), 3);
        Check.due("150 bytes", x.book(150), 0);
        Check.illegal("more than the TAPE has", () -> x.book(1));
    }

    private static void faultPlace() {
        Check.part("promise 7");
        CardCups x = desk();
        Check.due("none", x.fault(), -1);
        Check.book(x, "0 card 1;0 cat 2;");
        Check.due("of the BOOK", x.fault(), 11);
        Check.habit(x, 0, "put; pot;");
        Check.due("of the HABIT", x.fault(), 5);
        Check.missing("habit of none", () -> x.habit(9, 0));
        Check.due("a refused call reads none", x.fault(), 5);
        Check.rule(x, "");
        Check.due("none again", x.fault(), -1);
    }

    // ---- 8 to 11 ----

    private static void told() {
        Check.part("promise 8");
        CardCups x = Check.made("machine 11;cups 3 4;card 1;fall 5;warm 6;see 7;person;person;person;comes 0 9;");
        Check.book(x, "0 in 7;1 in 7;");
        int[] due = {11, 3, 4, 1, 5, 6, 7, 3, 1, 2};
        for (int i = 0; i < due.length; i++) Check.due("told " + i, x.told(i), due[i]);
        x.come(1, 3);
        Check.due("a VISIT more", x.told(8), 2);
        Check.illegal("told -1", () -> x.told(-1));
        Check.illegal("told 10", () -> x.told(10));
    }

    private static void visits() {
        Check.part("promise 9");
        CardCups x = Check.made("person;person;comes 1 50;comes 0 20;comes 1 50;comes 0 50;comes 1 10;");
        int[][] due = {{1, 10, 1, 999}, {0, 20, 1, 999}, {1, 50, 2, 40}, {1, 50, 3, 0}, {0, 50, 2, 30}};
        for (int v = 0; v < due.length; v++) {
            for (int i = 0; i < 4; i++) Check.due("visit " + v + " " + i, x.visit(v, i), due[v][i]);
        }
        Check.missing("VISIT 5", () -> x.visit(5, 0));
        Check.missing("VISIT -1, and what", () -> x.visit(-1, 4));
        Check.illegal("what 4", () -> x.visit(0, 4));
        Check.illegal("what -1", () -> x.visit(0, -1));
    }

    private static void people() {
        Check.part("promise 10");
        CardCups x = Check.made(DESK + "person;", PUTS, CARES);
        int[][] due = {{2, 2, 0}, {3, 1, 1}, {0, 0, -1}};
        for (int p = 0; p < due.length; p++) {
            for (int i = 0; i < 3; i++) Check.due("person " + p + " " + i, x.person(p, i), due[p][i]);
        }
        Check.missing("PERSON 3, and what", () -> x.person(3, 3));
        Check.missing("PERSON -1", () -> x.person(-1, 0));
        Check.illegal("what 3", () -> x.person(0, 3));
        Check.illegal("what -1", () -> x.person(0, -1));
    }

    private static void prices() {
        Check.part("promise 11");
        CardCups x = Check.made("cost 10 20 30 40 50;");
        for (int i = 0; i < 5; i++) Check.due("price " + i, x.price(i), 10 * (i + 1));
        Check.illegal("price 5", () -> x.price(5));
        Check.illegal("price -1", () -> x.price(-1));
    }

    // ---- 12 to 17 ----

    private static void statesMany() {
        Check.part("promise 12");
        CardCups x = desk();
        Check.due("behind VISIT 0", x.states(0), 1);
        // (3, 0), (2, 0) of those that saw, started; (1, 2), (1, 1), (0, 2) of the others
        Check.due("behind VISIT 1", x.states(1), 5);
        // unlike by when it was started alone, and not by what was seen
        CardCups y = Check.made("cups 1 0;see 8;person;comes 0 0;comes 0 0;", "look;start by 8;");
        Check.due("started or not", y.states(0), 2);
        Check.due("started in 0, in 1, never", y.states(1), 3);
        CardCups z = once("cups 0 1;see 8;", "look;");
        Check.due("what was seen is none", z.states(0), 1);
        Check.missing("VISIT 1", () -> z.states(1));
        Check.missing("VISIT -1", () -> z.states(-1));
    }

    private static void likely() {
        Check.part("promise 13");
        CardCups x = once("machine 2;cups 1 1;card 1;fall 4;", "");
        long[] due = {0, ONE / 4, 0, ONE / 4 * 3, 0, ONE};
        for (int i = 0; i < 6; i++) Check.due("likely " + i, x.likely(0, i), due[i]);
        CardCups y = once("machine 2;cups 1 1;card 1;", "start by 4;empty by 8 if warm = 1;");
        long[] then = {ONE / 4, ONE / 4, ONE / 4, ONE, ONE / 8, ONE / 8 * 7};
        for (int i = 0; i < 6; i++) Check.due("likely then " + i, y.likely(0, i), then[i]);
        CardCups z = desk();
        Check.due("warm in MINUTE 30", z.likely(1, 2), ONE / 2);
        Check.due("cold in MINUTE 60", z.likely(2, 2), 0);
        Check.missing("VISIT 3, and what", () -> z.likely(3, 6));
        Check.illegal("what 6", () -> z.likely(0, 6));
        Check.illegal("what -1", () -> z.likely(0, -1));
    }

    /** All PARTS are in one STATE behind a HABIT. */
    private static void act(String told, String habit, int clean, int dirty, int card) {
        Check.due(told + habit, once(told, habit).state(0, clean, dirty, card), ONE);
    }

    private static void acts() {
        Check.part("promise 14");
        act("machine 3;cups 1 1;", "put;", 1, 2, 0);
        act("machine 2;cups 1 1;", "put;", 1, 1, 0);
        act("machine 12;", Check.times(8, "put;"), 0, 8, 0);
        act("machine 12;cups 12 0;", "put;start;", 12, 0, 0);
        act("cups 0 2;", "take;", 0, 1, 0);
        act("cups 2 0;", "take;", 1, 0, 0);
        act("cups 0 0;", "take;", 0, 0, 0);
        act("cups 3 2;", "look;", 3, 2, 0);
        act("cups 3 2;", "start;", 5, 0, 0);
        act("", "start;", 0, 0, 0);
        act("cups 3 2;", "empty;", 0, 0, 0);
        act("cups 3 2;", "clean;clean;", 3, 2, 1);
        act("cups 3 2;card 1;", "dirty;dirty;", 3, 2, 0);
        act("cups 3 2;card 1;", "turn;", 3, 2, 0);
        act("cups 3 2;", "turn;", 3, 2, 1);
        act("fall 16;card 1;", "", 0, 0, 0);
        act("fall 16;", "", 0, 0, 1);
        Check.due("nothing to start", once("", "start;").likely(0, 2), 0);
        Check.due("emptied, still warm", once("cups 1 0;", "start;empty;").likely(0, 2), ONE);
        CardCups x = once("cups 1 0;", "");
        Check.due("another STATE", x.state(0, 0, 1, 0), 0);
        Check.due("another card", x.state(0, 1, 0, 1), 0);
        Check.due("more than any machine holds", x.state(0, 12, 12, 0), 0);
        Check.due("more than this one holds", x.state(0, 9, 0, 0), 0);
        Check.missing("VISIT 1, and more", () -> x.state(1, 13, 13, 2));
        Check.illegal("13 clean ones", () -> x.state(0, 13, 0, 0));
        Check.illegal("-1 clean ones", () -> x.state(0, -1, 0, 0));
        Check.illegal("13 dirty ones", () -> x.state(0, 0, 13, 0));
        Check.illegal("-1 dirty ones", () -> x.state(0, 0, -1, 0));
        Check.illegal("card 2", () -> x.state(0, 0, 0, 2));
        Check.illegal("card -1", () -> x.state(0, 0, 0, -1));
    }

    private static void cuts() {
        Check.part("terms 2, PARTS");
        CardCups x = once("cups 1 2;", "take;");
        Check.due("two thirds, cut", x.state(0, 1, 1, 0), 733007751850L);
        Check.due("the rest", x.state(0, 0, 2, 0), 366503875926L);
        // PARTS of one STATE are summed ahead of a STEP: else two sixteenths, each cut, would make one less
        CardCups y = once("cups 1 2;", "take;empty;turn by 1;");
        Check.due("a sixteenth of the sum", y.state(0, 0, 0, 1), ONE / 16);
        // those that saw are another sum: 733007751850 / 16 of them, and 366503875926 / 16
        CardCups z = once("cups 1 2;see 16;", "take;look if in = 2 and card = 0;turn by 1;");
        Check.due("both have a dirty one: all saw", z.likely(0, 3), 45812984490L + 22906492245L);
        CardCups w = once("cups 2 1;see 16;", "take;look;empty;turn by 1;");
        // 366503875925 drank the dirty one and see none; 733007751851 see it
        Check.due("apart by what was seen", w.state(0, 0, 0, 1), 366503875925L / 16 + 733007751851L / 16);
        CardCups v = once("cups 2 1;", "take;empty;");
        Check.due("no more apart", v.states(0), 1);
        CardCups u = Check.made("cups 0 1;see 4;person;comes 0 0;", "look;turn by 4 if seen = 1;");
        Check.due("seen by K of 16", u.likely(0, 3), ONE / 16);
        CardCups t = Check.made("cups 1 2;fall 1;person;comes 0 0;comes 0 0;", "take if visit = 1;empty if visit = 1;");
        Check.due("the card falls in each VISIT", t.likely(1, 3), 2 * (ONE / 16) - 2 * (ONE / 256));
    }

    private static void likeliest() {
        Check.part("promise 15");
        CardCups x = desk();
        Check.due("behind VISIT 0", x.likeliest(0), 104);
        Check.due("behind VISIT 1, of alike ones the least", x.likeliest(1), 104);
        CardCups y = once("cups 0 1;", "clean by 8;");
        Check.due("the card of alike ones", y.likeliest(0), 2);
        CardCups z = once("cups 0 1;", "start by 9;");
        Check.due("a clean one", z.likeliest(0), 100);
        CardCups w = once("machine 12;card 1;cups 0 12;", "");
        Check.due("twelve dirty ones", w.likeliest(0), 25);
        // summed over when it was started: two of 3/8 and 3/16, against 7/16
        CardCups v = Check.made("cups 1 0;person;comes 0 0;comes 0 0;", "start by 6;turn by 7 if visit = 2;");
        Check.due("whenever started", v.likeliest(1), 100);
        Check.missing("VISIT 2", () -> v.likeliest(2));
        Check.missing("VISIT -1", () -> v.likeliest(-1));
    }

    private static void fraction(String what, long above, long below, long dueAbove, long dueBelow) {
        Check.due(what + ", above", above, dueAbove);
        Check.due(what + ", below", below, dueBelow);
    }

    private static void mean() {
        Check.part("promise 16");
        CardCups x = once("cups 3 2;", "start by 4;put by 8;");
        fraction("clean ones", x.mean(0, 0, 0), x.mean(0, 0, 1), 7, 2);
        fraction("dirty ones", x.mean(0, 1, 0), x.mean(0, 1, 1), 2, 1);
        CardCups y = once("", "");
        fraction("none", y.mean(0, 0, 0), y.mean(0, 0, 1), 0, 1);
        Check.missing("VISIT 1, and more", () -> y.mean(1, 2, 2));
        Check.illegal("what 2", () -> y.mean(0, 2, 0));
        Check.illegal("what -1", () -> y.mean(0, -1, 0));
        Check.illegal("part 2", () -> y.mean(0, 0, 2));
        Check.illegal("part -1", () -> y.mean(0, 0, -1));
    }

    private static void often() {
        Check.part("promise 17");
        CardCups x = desk();
        fraction("three VISITS", x.often(0), x.often(1), 5, 6);
        CardCups y = Check.made("person;", "put;");
        fraction("no VISITS", y.often(0), y.often(1), 0, 1);
        CardCups z = once("", "put;clean;");
        fraction("never", z.often(0), z.often(1), 0, 1);
        Check.illegal("part 2", () -> x.often(2));
        Check.illegal("part -1", () -> x.often(-1));
    }

    private static void since() {
        Check.part("promise 18");
        CardCups x = Check.made("card 1;person;comes 0 1;comes 0 2;comes 0 3;", "put by 8 if visit = 1;put by 1 if visit = 2;");
        Check.due("by less than half", x.since(), 1);
        CardCups y = Check.made("card 1;person;comes 0 1;comes 0 2;", "put by 8 if visit = 1;");
        Check.due("by half", y.since(), -1);
        Check.due("the first one", once("", "").since(), 0);
        Check.due("no VISITS", new CardCups().since(), -1);
    }

    // ---- 19 to 22 ----

    private static void drunk() {
        Check.part("promise 19");
        CardCups x = Check.made("cups 1 2;person;person;person;comes 0 0;comes 1 0;comes 0 0;", "take;", "take by 8;", "take;");
        fraction("two thirds, cut", once("cups 1 2;", "take;").drunk(0, 0), once("cups 1 2;", "take;").drunk(0, 1), 366503875925L, ONE / 2);
        fraction("who does not come", x.drunk(2, 0), x.drunk(2, 1), 0, 1);
        // of 733007751850 (1, 1) half take, half of these dirty; of 366503875926 (0, 2) half
        fraction("by half", x.drunk(1, 0), x.drunk(1, 1), 183251937962L + 183251937963L, ONE);
        CardCups y = Check.made("cups 0 8;person;comes 0 0;comes 0 1;", Check.times(3, "take;"));
        fraction("more than one", y.drunk(0, 0), y.drunk(0, 1), 6, 1);
        Check.missing("PERSON 3, and part", () -> x.drunk(3, 2));
        Check.missing("PERSON -1", () -> x.drunk(-1, 0));
        Check.illegal("part 2", () -> x.drunk(0, 2));
        Check.illegal("part -1", () -> x.drunk(0, -1));
    }

    private static void done() {
        Check.part("promise 20");
        CardCups x = desk();
        fraction("WASHED", x.done(0, 0), x.done(0, 1), 1, 2);
        fraction("LOOKS", x.done(1, 0), x.done(1, 1), 1, 1);
        CardCups y = once("cups 3 1;", "start;start by 4;look by 8;look by 1;");
        fraction("WASHED twice", y.done(0, 0), y.done(0, 1), 4, 1);
        fraction("LOOKS without a dirty one", y.done(1, 0), y.done(1, 1), 9, 16);
        Check.illegal("what 2", () -> x.done(2, 0));
        Check.illegal("what -1", () -> x.done(-1, 0));
        Check.illegal("part 2", () -> x.done(0, 2));
        Check.illegal("part -1", () -> x.done(0, -1));
    }

    private static void cost() {
        Check.part("promise 21");
        CardCups x = once("cups 2 0;cost 99 10 3 98 97;", "start;look by 8;");
        fraction("two washed, half a look", x.cost(0), x.cost(1), 43, 2);
        CardCups y = once("cups 0 2;cost 7 10 3 98 97;", "take;take by 8;");
        fraction("one and a half drunk", y.cost(0), y.cost(1), 21, 2);
        fraction("at the desk", desk().cost(0), desk().cost(1), 1649267441661L, ONE / 2);
        fraction("nothing", new CardCups().cost(0), new CardCups().cost(1), 0, 1);
        // the dearest of all: 24 VISITS, each washing twelve clean ones eight times
        CardCups z = Check.made("machine 12;cups 12 0;cost 99 99 99 99 99;person;" + Check.times(24, "comes 0 0;"), Check.times(8, "start;"));
        fraction("the dearest", z.cost(0), z.cost(1), 99 * 12 * 8 * 24, 1);
        Check.illegal("part 2", () -> x.cost(2));
        Check.illegal("part -1", () -> x.cost(-1));
    }

    // ---- 22 to 26 ----

    private static void fits() {
        Check.part("promise 22");
        CardCups x = Check.made("fall 4;person;comes 0 0;comes 0 1;", "put;");
        fraction("no lines", x.fits(0), x.fits(1), 1, 1);
        Check.book(x, "0 card 1;");
        fraction("behind the falling", x.fits(0), x.fits(1), 1, 4);
        Check.book(x, "0 card 1;1 card 1;");
        fraction("both", x.fits(0), x.fits(1), 3, 16);
        Check.book(x, "0 card 1;0 card 0;");
        fraction("at odds", x.fits(0), x.fits(1), 0, 1);
        Check.book(x, "0 in 0;1 in 1;2 in 12;23 card 1;");
        fraction("lines of no VISITS", x.fits(0), x.fits(1), 1, 1);
        Check.book(x, "0 in 1;");
        fraction("ahead of the STEPS", x.fits(0), x.fits(1), 0, 1);
        fraction("what is likely hangs on no BOOK", x.likely(0, 3), x.states(0), ONE / 4, 2);
        CardCups y = Check.made("cups 1 0;warm 10;person;comes 0 0;comes 0 9;comes 0 20;", "start by 4 if visit = 1;");
        Check.book(y, "1 warm 1;");
        fraction("warm", y.fits(0), y.fits(1), 1, 4);
        Check.book(y, "2 warm 0;1 warm 0;");
        fraction("cold", y.fits(0), y.fits(1), 3, 4);
        Check.illegal("part 2", () -> x.fits(2));
        Check.illegal("part -1", () -> x.fits(-1));
    }

    private static void given() {
        Check.part("promise 23");
        CardCups x = Check.made("machine 1;fall 4;person;person;comes 0 0;comes 1 5;", "start by 8;put by 8;", "");
        fraction("said clean, as it begins", x.given(0, 3, 0), x.given(0, 3, 1), 1, 4);
        fraction("none in it yet", x.given(0, 4, 0), x.given(0, 4, 1), 1, 1);
        fraction("half full", x.given(1, 5, 0), x.given(1, 5, 1), 1, 2);
        Check.book(x, "1 in 1;");
        fraction("lines of later VISITS are not asked", x.given(0, 5, 0), x.given(0, 5, 1), 0, 1);
        fraction("full", x.given(1, 5, 0), x.given(1, 5, 1), 1, 1);
        fraction("no dirty one", x.given(1, 0, 0), x.given(1, 0, 1), 0, 1);
        fraction("TRUE: the card says dirty", x.given(1, 1, 0), x.given(1, 1, 1), 5, 8);
        Check.book(x, "0 card 1;");
        fraction("one that falls again", x.given(1, 3, 0), x.given(1, 3, 1), 3, 4);
        Check.book(x, "0 in 1;");
        fraction("none fits", x.given(0, 4, 0), x.given(0, 4, 1), 0, 1);
        fraction("none goes on", x.given(1, 4, 0), x.given(1, 4, 1), 0, 1);
        CardCups y = Check.made("cups 1 0;warm 10;person;comes 0 0;comes 0 9;comes 0 10;", "start by 4 if visit = 1;");
        fraction("warm in its MINUTE", y.given(1, 2, 0), y.given(1, 2, 1), 1, 4);
        fraction("cold in its MINUTE", y.given(2, 2, 0), y.given(2, 2, 1), 0, 1);
        Check.missing("VISIT 3, and more", () -> y.given(3, 6, 2));
        Check.illegal("what 6", () -> y.given(0, 6, 0));
        Check.illegal("what -1", () -> y.given(0, -1, 0));
        Check.illegal("part 2", () -> y.given(0, 0, 2));
        Check.illegal("part -1", () -> y.given(0, 0, -1));
    }

    /** One dirty cup, started by half ahead of VISIT 1. */
    private static CardCups halfClean(String told) {
        return Check.made("machine 1;cups 0 1;" + told + "person;person;comes 0 0;comes 1 400;", "start by 8;", "");
    }

    private static void best() {
        Check.part("promise 24");
        Check.due("clean: TAKE", once("cups 2 0;", "").best(0), 0);
        Check.due("dirty: OWN", once("cups 0 2;cost 9 1 1 3 4;", "").best(0), 1);
        Check.due("LOOK, of alike ones ahead of START", halfClean("see 16;").best(1), 2);
        Check.due("dirty: START", once("cups 0 2;", "").best(0), 3);
        Check.due("TAKE of alike ones", once("cups 0 1;cost 3 1 1 3 3;", "").best(0), 0);
        Check.due("OWN of alike ones", once("cups 0 1;cost 9 1 0 3 3;see 0;", "").best(0), 1);
        CardCups x = halfClean("see 16;");
        Check.book(x, "1 warm 1;");
        Check.due("cold: none fits", x.best(1), -1);
        Check.due("VISIT 0 goes without that line", x.best(0), 3);
        Check.book(x, "1 in 1;");
        Check.due("again", x.best(1), 2);
        Check.missing("VISIT 2", () -> x.best(2));
        Check.missing("VISIT -1", () -> x.best(-1));
    }

    private static void ways(CardCups x, int visit, long... due) {
        for (int way = 0; way < 4; way++) {
            fraction("way " + way, x.worth(visit, way, 0), x.worth(visit, way, 1), due[2 * way], due[2 * way + 1]);
        }
    }

    private static void worth() {
        Check.part("promise 25");
        // TAKE 9/2, OWN 3, LOOK 1 and by half seen the less of 9/4 and 3/2, else the same, START 1 and 2
        ways(once("cups 1 1;see 8;", ""), 0, 9, 2, 3, 1, 4, 1, 3, 1);
        // none in it: O for TAKE, LOOK and O, S and O
        ways(once("cost 9 1 1 3 2;", ""), 0, 3, 1, 3, 1, 4, 1, 5, 1);
        // half clean: TAKE 9/2, LOOK 1 and half an O, START half an X and S
        ways(halfClean("see 16;"), 1, 9, 2, 3, 1, 5, 2, 5, 2);
        // half of the dirty ones are seen: 1 and O/4, and of 3/4 the less of D/4 and 3 O/4
        ways(halfClean("see 8;"), 1, 9, 2, 3, 1, 4, 1, 5, 2);
        // other prices: D 20, X 5, L 2, O 7, S 11
        ways(once("cups 3 1;see 16;cost 20 5 2 7 11;", ""), 0, 5, 1, 7, 1, 7, 1, 26, 1);
        CardCups x = halfClean("see 16;");
        Check.book(x, "1 in 0;");
        ways(x, 1, 0, 1, 0, 1, 0, 1, 0, 1);
        Check.book(x, "1 card 0;");
        ways(x, 1, 9, 2, 3, 1, 5, 2, 5, 2);
        // PARTS times dirty ones by all in it are cut: 2/3 of all
        CardCups y = once("cups 1 2;cost 1 0 0 1 0;", "");
        fraction("cut", y.worth(0, 0, 0), y.worth(0, 0, 1), 366503875925L, ONE / 2);
        Check.missing("VISIT 1, and more", () -> y.worth(1, 4, 2));
        Check.illegal("way 4", () -> y.worth(0, 4, 0));
        Check.illegal("way -1", () -> y.worth(0, -1, 0));
        Check.illegal("part 2", () -> y.worth(0, 0, 2));
        Check.illegal("part -1", () -> y.worth(0, 0, -1));
    }

    private static void gain() {
        Check.part("promise 26");
        CardCups x = halfClean("see 16;");
        fraction("LOOK 5/2, OWN 3", x.gain(1, 0), x.gain(1, 1), 1, 2);
        fraction("not less", x.gain(0, 0), x.gain(0, 1), 0, 1);
        CardCups y = halfClean("see 16;cost 5 1 0 4 2;");
        fraction("TAKE 5/2, LOOK 2", y.gain(1, 0), y.gain(1, 1), 1, 2);
        Check.book(x, "0 in 0;");
        fraction("none fits", x.gain(1, 0), x.gain(1, 1), 0, 1);
        Check.missing("VISIT 2, and part", () -> x.gain(2, 2));
        Check.missing("VISIT -1", () -> x.gain(-1, 0));
        Check.illegal("part 2", () -> x.gain(0, 2));
        Check.illegal("part -1", () -> x.gain(0, -1));
    }

    // ---- 27 to 36 ----

    private static void without() {
        Check.part("promise 27");
        CardCups x = desk();
        // without PERSON 0 it stays (1, 1): half see and start, all take by half
        Check.due("TRUE without 0", x.without(0, 0), 687194767360L);
        Check.due("COST without 0, cut", x.without(0, 1), 2);
        Check.due("TRUE without 1", x.without(1, 0), ONE);
        Check.due("COST without 1", x.without(1, 1), 0);
        Check.due("all is as it was", x.likely(2, 5), ONE / 2);
        // the card does not fall in a VISIT left out
        CardCups y = Check.made("card 1;fall 4;person;person;comes 0 0;comes 1 1;", "", "dirty if visit = 1 and last = 999;");
        Check.due("one falling", y.without(1, 0), ONE / 4 * 3);
        Check.due("the other's own VISIT", y.without(0, 0), 0);
        CardCups z = Check.made("card 1;person;person;comes 1 1;", "", "dirty;");
        Check.due("no VISITS: as told", z.without(1, 0), ONE);
        Check.due("who does not come", z.without(0, 0), 0);
        Check.missing("PERSON 2, and what", () -> x.without(2, 2));
        Check.missing("PERSON -1", () -> x.without(-1, 0));
        Check.illegal("what 2", () -> x.without(0, 2));
        Check.illegal("what -1", () -> x.without(0, -1));
    }

    private static void keeperAndSpoiler() {
        Check.part("promises 28, 29");
        CardCups x = desk();
        Check.due("KEEPER", x.keeper(), 0);
        Check.due("SPOILER", x.spoiler(), 1);
        Check.due("no PEOPLE: KEEPER", new CardCups().keeper(), -1);
        Check.due("no PEOPLE: SPOILER", new CardCups().spoiler(), -1);
        CardCups y = Check.made("person;person;person;");
        Check.due("alike: KEEPER", y.keeper(), 0);
        Check.due("alike: SPOILER", y.spoiler(), 0);
        CardCups z = Check.made("card 1;person;person;person;comes 0 0;comes 1 1;comes 2 2;", "put;", "look;empty;look;", "look by 8;");
        // without 1 the dirty one stays
        Check.due("who empties it", z.keeper(), 1);
        Check.due("who looks twice", z.spoiler(), 1);
        // COST is held whole against COST: 9/2 and 5/2 are not alike, nor are 1/2 and 0
        CardCups w = Check.made("person;person;comes 0 0;comes 1 1;", "look by 4;", "look by 8;");
        Check.due("by less than one", w.spoiler(), 1);
    }

    private static void falling() {
        Check.part("promise 30");
        CardCups x = Check.made("card 1;fall 3;person;comes 0 0;", "");
        Check.due("Q 0", x.falling(0), ONE);
        Check.due("Q 4", x.falling(4), ONE / 4 * 3);
        Check.due("Q 16", x.falling(16), 0);
        Check.due("as it is", x.likely(0, 1), ONE / 16 * 13);
        CardCups y = Check.made("card 1;fall 3;person;");
        Check.due("no VISITS: as told", y.falling(16), ONE);
        Check.illegal("Q 17", () -> x.falling(17));
        Check.illegal("Q -1", () -> x.falling(-1));
    }

    private static void seeing() {
        Check.part("promise 31");
        CardCups x = once("cups 4 1;see 3;cost 0 10 0 0 0;", "look;start if seen = 1;");
        fraction("K 0", x.seeing(0, 0), x.seeing(0, 1), 0, 1);
        fraction("K 4", x.seeing(4, 0), x.seeing(4, 1), 10, 1);
        fraction("K 16", x.seeing(16, 0), x.seeing(16, 1), 40, 1);
        fraction("as it is", x.cost(0), x.cost(1), 15, 2);
        Check.illegal("K 17", () -> x.seeing(17, 0));
        Check.illegal("K -1", () -> x.seeing(-1, 0));
        Check.illegal("part 2", () -> x.seeing(0, 2));
        Check.illegal("part -1", () -> x.seeing(0, -1));
    }

    private static void filled() {
        Check.part("promise 32");
        CardCups x = desk();
        // k 3: 1 clean one washed behind VISIT 0, 3 by half behind 1, 2 and 3 by half behind 2, and one look
        fraction("k 3", x.filled(3, 0), x.filled(3, 1), 6, 1);
        fraction("k 2", x.filled(2, 0), x.filled(2, 1), 7, 1);
        fraction("k 12, more than it holds", x.filled(12, 0), x.filled(12, 1), 1649267441661L, ONE / 2);
        // it is started of that VISIT: warm in the next one
        CardCups y = Check.made("cups 1 0;warm 5;cost 9 1 1 0 0;person;comes 0 0;comes 0 4;comes 0 9;", "look if warm = 1;");
        fraction("warm", y.filled(1, 0), y.filled(1, 1), 4, 1);
        fraction("never started", y.filled(2, 0), y.filled(2, 1), 0, 1);
        fraction("nothing in it is not started", Check.made("person;comes 0 0;comes 0 1;", "look if warm = 1;").filled(1, 0),
            Check.made("person;comes 0 0;").filled(1, 1), 0, 1);
        Check.illegal("k 0", () -> x.filled(0, 0));
        Check.illegal("k 13", () -> x.filled(13, 0));
        Check.illegal("part 2", () -> x.filled(1, 2));
        Check.illegal("part -1", () -> x.filled(1, -1));
    }

    private static void fill() {
        Check.part("promise 33");
        Check.due("at the desk", desk().fill(), 4);
        Check.due("no VISITS: all alike", new CardCups().fill(), 1);
        // a dirty one put in each VISIT and drunk in the next one: started at once it costs none
        CardCups x = Check.made("machine 3;person;comes 0 0;comes 0 1;comes 0 2;", "take;put;");
        Check.due("at once", x.fill(), 1);
        // two washed again behind each VISIT, unless k is above two
        CardCups y = Check.made("machine 2;cups 2 0;person;comes 0 0;", "");
        Check.due("k goes to N alone", y.fill(), 1);
        CardCups z = Check.made("machine 4;cups 3 0;person;comes 0 0;", "");
        Check.due("never", z.fill(), 4);
    }

    private static void ruled() {
        Check.part("promise 34");
        CardCups x = desk();
        Check.due("no RULE: TRUE", x.ruled(0), 0);
        Check.due("no RULE: COST", x.ruled(1), 0);
        Check.rule(x, "turn;look by 8;");
        Check.due("turned three times", x.ruled(0), ONE);
        Check.due("looks of three halves, cut", x.ruled(1), 1);
        Check.due("HABITS stay", x.person(0, 0), 2);
        CardCups y = Check.made("card 1;person;");
        Check.rule(y, "turn;");
        Check.due("no VISITS: as told", y.ruled(0), ONE);
        Check.illegal("what 2", () -> y.ruled(2));
        Check.illegal("what -1", () -> y.ruled(-1));
    }

    private static void swapped() {
        Check.part("promise 35");
        CardCups x = Check.made("cost 9 1 4 3 2;person;person;person;comes 0 0;comes 0 1;comes 1 2;", "look;", "look by 8;", "look;look;");
        fraction("0 and 1", x.swapped(0, 1, 0), x.swapped(0, 1, 1), 8, 1);
        fraction("1 and 0", x.swapped(1, 0, 0), x.swapped(1, 0, 1), 8, 1);
        fraction("0 and 2", x.swapped(0, 2, 0), x.swapped(0, 2, 1), 18, 1);
        fraction("2 and 1", x.swapped(2, 1, 0), x.swapped(2, 1, 1), 16, 1);
        fraction("as it is", x.cost(0), x.cost(1), 10, 1);
        Check.missing("PERSON 3", () -> x.swapped(3, 3, 2));
        Check.missing("the other one 3", () -> x.swapped(0, 3, 2));
        Check.missing("PERSON -1", () -> x.swapped(-1, 0, 0));
        Check.illegal("one PERSON", () -> x.swapped(1, 1, 0));
        Check.illegal("part 2", () -> x.swapped(0, 1, 2));
        Check.illegal("part -1", () -> x.swapped(0, 1, -1));
    }

    private static void swap() {
        Check.part("promise 36");
        CardCups x = Check.made("cost 9 1 4 3 2;person;person;person;comes 0 0;comes 0 1;comes 1 2;", "look;", "look by 8;", "look;look;");
        Check.due("0 and 1", x.swap(), 1);
        CardCups y = Check.made("person;person;person;person;comes 2 0;", "", "", "look;", "");
        Check.due("of alike ones the least", y.swap(), 2);
        CardCups z = Check.made("person;person;person;person;comes 2 0;", "look;", "look;", "look;", "");
        Check.due("2 and 3", z.swap(), 23);
        Check.due("one PERSON", Check.made("person;comes 0 0;", "look;").swap(), -1);
        Check.due("not less", Check.made("person;person;comes 0 0;comes 1 0;", "look;", "look;").swap(), -1);
    }

    // ---- 37, 38 ----

    private static void day() {
        Check.part("promise 37");
        CardCups x = Check.made(DAYS, DAILY);
        // SEED 0 DRAWS 0, 21468, 9988, 22117, 3498, 16927
        int[][] nought = {{2, 0, 1, 1, 1, 1, 0}, {1, 0, 1, 1, 1, 2, 0}};
        // SEED 1 DRAWS 16838, 5758, 10113, 17515, 31051, 5627, 23010, 7419
        int[][] one = {{1, 1, 0, 1, 0, 1, -1}, {0, 1, 0, 1, 0, 2, -1}};
        // SEED 2 DRAWS 908, 22817, 10239, 12914, 25837, 27095, 29976
        int[][] two = {{0, 2, 0, 0, 0, 1, -1}, {0, 1, 1, 1, 0, 2, -1}};
        for (int v = 0; v < 2; v++) {
            for (int i = 0; i < 7; i++) {
                Check.due("day of 0 behind " + v + " " + i, x.day(0, v, i), nought[v][i]);
                Check.due("day of 1 behind " + v + " " + i, x.day(1, v, i), one[v][i]);
                Check.due("day of 2 behind " + v + " " + i, x.day(2, v, i), two[v][i]);
                // the highest bit is not among those that are DRAWN, nor moves it any of them
                Check.due("day of -2147483648 behind " + v + " " + i, x.day(-2147483648, v, i), nought[v][i]);
            }
        }
        // 16 of 16 is a DRAW too, none but the 0 that SEED 0 DRAWS falls
        CardCups y = Check.made("fall 1;person;comes 0 0;comes 0 1;", "turn by 16;");
        Check.due("fallen and turned", y.day(0, 0, 2), 0);
        Check.due("turned again", y.day(0, 1, 2), 1);
        // nothing in it: no DRAW of TAKE, no DRAW of LOOK; "by 13" has SEED 0's second one: 12
        CardCups z = once("", "take;look;start;put by 13;put by 5;put by 5;");
        Check.due("12, 4 and 5 of 16", z.day(0, 0, 1), 2);
        Check.due("not started", z.day(0, 0, 6), -1);
        Check.due("looked", z.day(0, 0, 5), 1);
        Check.due("clean", once("", "clean;").day(0, 0, 2), 1);
        Check.due("from clean to dirty", once("fall 1;card 1;", "").day(0, 0, 2), 0);
        // LOOK has SEED 0's second DRAW too
        Check.due("12 is below K", once("cups 0 1;see 13;", "look;clean if seen = 1;").day(0, 0, 2), 1);
        Check.due("12 is not below K", once("cups 0 1;see 12;", "look;clean if seen = 1;").day(0, 0, 2), 0);
        Check.due("0 is not below Q", once("fall 0;", "").day(0, 0, 2), 0);
        CardCups w = once("machine 2;cups 1 0;", "put;put;clean;dirty;turn;empty by 13;");
        Check.due("emptied", w.day(0, 0, 0) + w.day(0, 0, 1), 0);
        Check.due("the card", w.day(0, 0, 2), 1);
        Check.missing("VISIT 2, and what", () -> x.day(0, 2, 7));
        Check.missing("VISIT -1", () -> x.day(0, -1, 0));
        Check.illegal("what 7", () -> x.day(0, 0, 7));
        Check.illegal("what -1", () -> x.day(0, 0, -1));
    }

    private static void span() {
        Check.part("promise 38");
        CardCups x = Check.made(DAYS, DAILY);
        int[] due = {2, 3, 1};
        for (int i = 0; i < 3; i++) Check.due("three SEEDS, " + i, x.span(0, 3, i), due[i]);
        Check.due("one SEED", x.span(2, 1, 0), 0);
        // SEED 2147483647: TRUE, one drunk; the next one is -2147483648, as 0
        int[] wrapped = {2, 2, 1};
        for (int i = 0; i < 3; i++) Check.due("SEEDS wrap, " + i, x.span(2147483647, 2, i), wrapped[i]);
        CardCups y = once("cups 0 3;card 1;", "take if card = 1;take;");
        Check.due("two each", y.span(7, 40, 1), 80);
        Check.due("the most", y.span(7, 40, 2), 2);
        Check.due("none TRUE", y.span(7, 40, 0), 0);
        CardCups z = Check.made("cups 2 0;card 1;");
        Check.due("no VISITS: as told", z.span(7, 40, 0), 40);
        // TAKE of (1, 1): SEED 0's second DRAW is even, SEED 1's too, SEED 2's is odd
        CardCups w = once("cups 1 1;", "take;");
        Check.due("in all", w.span(0, 3, 1), 2);
        Check.due("by one", w.span(0, 3, 2), 1);
        Check.due("the last one alone", w.span(2, 1, 2), 0);
        Check.illegal("no SEEDS", () -> x.span(0, 0, 0));
        Check.illegal("41 SEEDS", () -> x.span(0, 41, 0));
        Check.illegal("what 3", () -> x.span(0, 1, 3));
        Check.illegal("what -1", () -> x.span(0, 1, -1));
    }

    // ---- 39 to 45 ----

    private static void diary(String what, CardCups x, int... due) {
        Check.due(what + ": VISITS", x.told(8), due.length / 2);
        for (int v = 0; v < due.length / 2 && v < x.told(8); v++) {
            Check.due(what + ": who, " + v, x.visit(v, 0), due[2 * v]);
            Check.due(what + ": when, " + v, x.visit(v, 1), due[2 * v + 1]);
        }
    }

    private static void come() {
        Check.part("promise 39");
        CardCups x = desk();
        Check.due("behind those of its MINUTE", x.come(0, 30), 2);
        Check.due("ahead of all", x.come(1, 0), 0);
        Check.due("behind all", x.come(1, 480), 5);
        diary("come", x, 1, 0, 0, 10, 1, 30, 0, 30, 0, 60, 1, 480);
        Check.missing("PERSON 2, and MINUTE", () -> x.come(2, 481));
        Check.missing("PERSON -1", () -> x.come(-1, 0));
        Check.illegal("MINUTE 481", () -> x.come(0, 481));
        Check.illegal("MINUTE -1", () -> x.come(0, -1));
        Check.due("three changes", x.count(2), 3);
        for (int i = 0; i < 17; i++) Check.due("come " + i, x.come(0, 100), 5 + i);
        Check.due("20 changes", x.come(0, 100), -1);
        Check.due("VISITS", x.told(8), 23);
        Check.missing("ahead of that", () -> x.come(2, 100));
        Check.illegal("ahead of that", () -> x.come(0, 481));
        CardCups y = Check.made("person;" + Check.times(23, "comes 0 1;"));
        Check.due("the 24th", y.come(0, 1), 23);
        Check.due("the 25th", y.come(0, 1), -1);
        Check.due("one change", y.count(2), 1);
        Check.illegal("ahead of that", () -> y.come(0, 481));
    }

    private static void skip() {
        Check.part("promise 40");
        CardCups x = desk();
        long cost = x.without(1, 1);
        Check.due("left out", x.skip(1), 2);
        diary("skip", x, 0, 10, 0, 60);
        Check.due("COST then", x.cost(0), cost);
        Check.missing("VISIT 2", () -> x.skip(2));
        Check.missing("VISIT -1", () -> x.skip(-1));
        Check.due("again", x.skip(1), 1);
        Check.due("and again", x.skip(0), 0);
        Check.missing("none is left", () -> x.skip(0));
        CardCups y = Check.made("person;" + Check.times(24, "comes 0 1;"));
        for (int i = 23; i > 3; i--) Check.due("skip", y.skip(0), i);
        Check.due("20 changes", y.skip(0), -1);
        Check.due("VISITS", y.told(8), 4);
        Check.missing("ahead of that", () -> y.skip(4));
    }

    private static void shift() {
        Check.part("promise 41");
        CardCups x = desk();
        Check.due("to another's MINUTE", x.shift(0, 30), 1);
        diary("shift", x, 1, 30, 0, 30, 0, 60);
        Check.due("in its own MINUTE", x.shift(0, 30), 1);
        diary("shift again", x, 0, 30, 1, 30, 0, 60);
        Check.due("ahead of all", x.shift(2, 0), 0);
        diary("shift ahead", x, 0, 0, 0, 30, 1, 30);
        Check.due("behind all", x.shift(0, 480), 2);
        Check.missing("VISIT 3, and MINUTE", () -> x.shift(3, 481));
        Check.missing("VISIT -1", () -> x.shift(-1, 0));
        Check.illegal("MINUTE 481", () -> x.shift(0, 481));
        Check.illegal("MINUTE -1", () -> x.shift(0, -1));
        Check.due("changes", x.count(2), 4);
        for (int i = 0; i < 16; i++) x.shift(0, 7);
        Check.due("20 changes", x.shift(0, 8), -1);
        Check.due("MINUTE", x.visit(0, 1), 7);
        Check.illegal("ahead of that", () -> x.shift(0, 481));
        CardCups y = Check.made("person;" + Check.times(24, "comes 0 1;"));
        Check.due("of 24", y.shift(0, 2), 23);
    }

    private static void teach() {
        Check.part("promise 42");
        CardCups x = desk();
        Check.due("a copy", x.teach(0, 1), 3);
        Check.due("his STEPS", x.person(0, 0), 3);
        Check.due("the other one's", x.person(1, 0), 3);
        Check.due("no change", x.count(2), 0);
        fraction("LOOKS of all", x.done(1, 0), x.done(1, 1), 3, 1);
        Check.habit(x, 1, "");
        Check.due("it is a copy", x.person(0, 0), 3);
        fraction("LOOKS of one", x.done(1, 0), x.done(1, 1), 2, 1);
        Check.due("by himself", x.teach(0, 0), 3);
        x.image();
        x.teach(0, 1);
        x.restore();
        Check.due("in no IMAGE", x.person(0, 0), 0);
        Check.missing("PERSON 2", () -> x.teach(2, 0));
        Check.missing("the other one 2", () -> x.teach(0, 2));
        Check.missing("PERSON -1", () -> x.teach(-1, 0));
    }

    private static void undo() {
        Check.part("promise 43");
        CardCups x = desk();
        Check.due("there is none", x.undo(), -1);
        long cost = x.cost(0);
        x.come(1, 30);
        x.skip(0);
        x.shift(2, 0);
        diary("changed", x, 0, 0, 1, 30, 1, 30);
        Check.due("shift", x.undo(), 2);
        diary("shift undone", x, 1, 30, 1, 30, 0, 60);
        Check.due("skip", x.undo(), 1);
        diary("skip undone", x, 0, 10, 1, 30, 1, 30, 0, 60);
        Check.due("come", x.undo(), 0);
        diary("come undone", x, 0, 10, 1, 30, 0, 60);
        Check.due("COST as before", x.cost(0), cost);
        Check.due("there is none", x.undo(), -1);
        for (int i = 0; i < 20; i++) x.shift(0, i);
        Check.due("one of 20", x.undo(), 19);
        Check.due("room for one", x.shift(0, 400), 2);
        Check.due("and no more", x.skip(0), -1);
        for (int i = 19; i >= 0; i--) Check.due("undo", x.undo(), i);
        diary("all undone", x, 0, 10, 1, 30, 0, 60);
    }

    private static void images() {
        Check.part("promises 44, 45");
        CardCups x = desk();
        Check.due("none to restore", x.restore(), -1);
        x.come(0, 0);
        Check.due("image", x.image(), 1);
        x.come(0, 1);
        Check.due("image", x.image(), 2);
        x.skip(0);
        x.undo();
        x.undo();
        x.undo();
        Check.due("image", x.image(), 3);
        Check.due("there are 3", x.image(), -1);
        Check.habit(x, 0, "put;");
        Check.rule(x, "turn;look;");
        Check.book(x, "0 card 1;");
        x.feed(0, 0, 0, 0, 0);
        x.shift(0, 100);
        Check.due("restore", x.restore(), 2);
        diary("the third", x, 0, 10, 1, 30, 0, 60);
        Check.due("nothing to undo", x.undo(), -1);
        Check.due("restore", x.restore(), 1);
        diary("the second", x, 0, 0, 0, 1, 0, 10, 1, 30, 0, 60);
        Check.due("two to undo", x.count(2), 2);
        Check.due("undo", x.undo(), 1);
        diary("the second, undone", x, 0, 0, 0, 10, 1, 30, 0, 60);
        Check.due("restore", x.restore(), 0);
        Check.due("undo", x.undo(), 0);
        diary("the first, undone", x, 0, 10, 1, 30, 0, 60);
        Check.due("there is none", x.restore(), -1);
        Check.due("HABITS stay", x.person(0, 0), 1);
        Check.due("the BOOK stays", x.told(9), 1);
        Check.due("the RULE stays", x.ruled(1), 3);
        Check.due("the TAPE stays", x.count(1), 20);
    }

    // ---- 46, 47 ----

    private static void status() {
        Check.part("promise 46");
        CardCups x = desk();
        Check.missing("PERSON 2", () -> x.person(2, 9));
        Check.missing("VISIT 3", () -> x.likely(3, 9));
        Check.missing("PERSON 5", () -> x.swapped(5, 6, 9));
        Check.illegal("told", () -> x.told(99));
        Check.due("not found", x.status(0), 3);
        Check.due("not allowed", x.status(1), 1);
        Check.due("others", x.status(2), -1);
        Check.due("others", x.status(-1), -1);
        x.image();
        Check.illegal("cost", () -> x.cost(9));
        x.restore();
        Check.due("no IMAGE keeps it", x.status(1), 2);
        x.restore();
        x.undo();
        Check.due("an answer is none", x.status(0) + x.status(1), 5);
        Check.office(x, "");
        Check.due("an OFFICE leaves it", x.status(0) + x.status(1), 5);
    }

    private static void count() {
        Check.part("promise 47");
        CardCups x = desk();
        x.image();
        x.image();
        x.come(0, 0);
        x.feed(1, 2, 3, 4, 5);
        Check.due("IMAGES", x.count(0), 2);
        Check.due("bytes", x.count(1), 20);
        Check.due("changes", x.count(2), 1);
        Check.due("others", x.count(3), -1);
        Check.due("others", x.count(-1), -1);
        x.undo();
        Check.due("changes that can be undone", x.count(2), 0);
    }

    // ---- all together ----

    private static void looks(String what, CardCups x, int looks) {
        Check.due(what + ": COST", x.cost(0), looks);
        Check.due(what + ": as VISIT 0 begins", x.given(0, 5, 0), looks > 0 ? 1 : 0);
        Check.due(what + ": with another K", x.seeing(0, 0), looks);
        Check.due(what + ": in a DAY", x.day(0, 0, 5), looks > 0 ? 1 : 0);
    }

    /** What was reckoned ahead of a change is not answered behind it. */
    private static void reckonedAnew() {
        Check.part("reckoned anew");
        CardCups x = Check.made("machine 1;cups 1 0;person;comes 0 0;");
        Check.habit(x, 0, "");
        Check.due("no looks", x.cost(0) + x.seeing(0, 0) + x.day(0, 0, 5), 0);
        Check.habit(x, 0, "look;");
        looks("habit", x, 1);
        x.come(0, 1);
        looks("come", x, 2);
        x.shift(0, 2);
        looks("shift", x, 2);
        x.image();
        x.undo();
        x.undo();
        looks("undo", x, 1);
        x.restore();
        looks("restore", x, 2);
        x.skip(1);
        looks("skip", x, 1);
        Check.due("no RULE", x.ruled(1), 0);
        Check.rule(x, "look;look;");
        Check.due("a RULE", x.ruled(1), 2);
        Check.due("fits", x.fits(0), 1);
        Check.book(x, "0 in 0;");
        Check.due("does not fit", x.fits(0), 0);
        Check.office(x, "machine 1;cups 1 0;person;person;comes 0 0;");
        Check.due("fits again", x.fits(0), 1);
        Check.due("nobody looks", x.cost(0), 0);
        Check.habit(x, 1, "look;");
        Check.due("who looks does not come", x.cost(0), 0);
        x.teach(0, 1);
        looks("teach", x, 1);
        Check.due("an edge that was shifted", x.shift(0, 9), 0);
        Check.habit(x, 0, "look if minute = 9;");
        looks("MINUTE 9", x, 1);
        x.shift(0, 8);
        Check.due("MINUTE 8", x.cost(0), 0);
        x.undo();
        looks("MINUTE 9 again", x, 1);
    }
}
