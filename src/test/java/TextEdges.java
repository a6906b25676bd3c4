/** Terms 1 and promises 2 to 7: what a text may hold and how much of it, and where its FAULT lies. */
final class TextEdges {
    private static final long ONE = Check.ONE;
    private static final int[] DEFAULTS = {8, 0, 0, 0, 0, 30, 12, 0, 0, 0};
    private static final int[] DEFAULT_PRICES = {9, 1, 1, 3, 2};

    private TextEdges() {}

    static void all() {
        Doc.section("Terms");
        officeLength();
        machine();
        cups();
        cardFallWarmSee();
        cost();
        people();
        visits();
        habitLength();
        steps();
        claims();
        units();
        wraps();
        bookLength();
        bookLines();
        numbers();
        words();
        blanks();
        faultPlaces();
        tooMany();
        openAtOneTime();
        machineLate();
        leastOfOnePlace();
        promises();
    }

    // ---- what a text answers ----

    private static CardCups office(String text, int due) {
        CardCups x = new CardCups();
        Check.due("office(" + text + ")", Check.office(x, text), due);
        Check.due("FAULT of " + text, x.fault(), -1);
        return x;
    }

    private static void told(String text, int what, int due) {
        CardCups x = new CardCups();
        Check.due("is fine: " + text, Check.office(x, text) >= 0 ? 1 : 0, 1);
        Check.due("told " + what + " of " + text, x.told(what), due);
    }

    private static void officeFault(String text, int kind, int place) {
        CardCups x = new CardCups();
        Check.due("office(" + text + ")", Check.office(x, text), kind - 10);
        Check.due("place of the FAULT of " + text, x.fault(), place);
        Check.due("the TAPE behind " + text, x.count(1), 0);
        Check.due("nobody behind " + text, x.told(7) + x.told(8), 0);
    }

    /** Of a HABIT, and of the RULE. */
    private static void stepsFault(String text, int kind, int place) {
        CardCups x = Check.made("person;comes 0 0;", "turn;");
        Check.rule(x, "look;");
        Check.due("habit(" + text + ")", Check.habit(x, 0, text), kind - 10);
        Check.due("place of the FAULT of " + text, x.fault(), place);
        Check.due("the TAPE behind " + text, x.count(1), 0);
        Check.due("the HABIT behind " + text, x.person(0, 0) + x.likely(0, 3), 1 + ONE);
        Check.due("rule(" + text + ")", Check.rule(x, text), kind - 10);
        Check.due("place of the RULE's FAULT of " + text, x.fault(), place);
        Check.due("the RULE behind " + text, x.ruled(1), 1);
    }

    private static void bookFault(String text, int kind, int place) {
        CardCups x = Check.made("person;comes 0 0;", "");
        Check.book(x, "0 in 1;");
        Check.due("book(" + text + ")", Check.book(x, text), kind - 10);
        Check.due("place of the FAULT of " + text, x.fault(), place);
        Check.due("the TAPE behind " + text, x.count(1), 0);
        Check.due("the BOOK behind " + text, x.told(9) + x.fits(0), 1);
    }

    /** As many STEPS, as a HABIT and as the RULE. */
    private static void steps(String text, int due) {
        CardCups x = Check.made("person;comes 0 0;");
        Check.due("habit(" + text + ")", Check.habit(x, 0, text), due);
        Check.due("FAULT of " + text, x.fault(), -1);
        Check.due("STEPS of " + text, x.person(0, 0), due);
        Check.due("rule(" + text + ")", Check.rule(x, text), due);
        Check.due("FAULT of the RULE " + text, x.fault(), -1);
    }

    private static void lines(String text, int due) {
        CardCups x = new CardCups();
        Check.due("book(" + text + ")", Check.book(x, text), due);
        Check.due("FAULT of " + text, x.fault(), -1);
        Check.due("lines of " + text, x.told(9), due);
    }

    /** Whether a C is so in the one VISIT, in MINUTE 7, of cups 2 and 1 of 5, the card clean. */
    private static void so(String condition, boolean due) {
        so("machine 5;cups 2 1;card 1;person;comes 0 7;", condition, due);
    }

    /** Whether a C is so in VISIT 0, in a HABIT and in a DAY. */
    private static void so(String told, String condition, boolean due) {
        CardCups x = Check.made(told, "put;empty;put if " + condition + ";");
        CardCups y = Check.made(told, "turn if " + condition + ";");
        int card = x.told(3);
        Check.due(told + condition, y.likely(0, 3), due == (card == 0) ? ONE : 0);
        Check.due("in a DAY: " + condition, y.day(1, 0, 2), due ? 1 - card : card);
        Check.due("is a C: " + condition, x.person(0, 0), 3);
    }

    // ---- an OFFICE ----

    private static void officeLength() {
        Doc.says("An OFFICE is a text of up to 600 bytes: { CLAUSE \";\" }, at most 60.");
        office("", 0);
        office("card 1;", 0);
        // the 600th byte counts: with it there is a second PERSON, and without it none
        String full = "person;comes 0 0;" + Check.times(576, " ") + "person;";
        CardCups x = office(full, 1);
        Check.due("600 bytes", full.length(), 600);
        Check.due("PEOPLE of 600 bytes", x.told(7), 2);
        officeFault(full.substring(0, 599), 1, 599);
        officeFault(full.substring(0, 599) + "&", 1, 599);
        officeFault(Check.times(599, " ") + "c", 1, 599);
        officeFault(Check.times(597, " ") + "see", 1, 600);
        told(Check.times(59, "see 1;") + "", 6, 1);
        told(Check.times(59, "see 1;") + "see 2;", 6, 2);
        officeFault(Check.times(60, "see 1;") + "see 2;", 3, 360);
        officeFault("card 1", 1, 6);
        officeFault("card 1;;", 1, 7);
    }

    private static void machine() {
        Doc.says("CLAUSE: \"machine\" N (holds N CUPS, 1 to 12; 8 without; ahead of all others, once),");
        officeFault("machine 0;", 2, 8);
        told("machine 1;", 0, 1);
        told("machine 12;", 0, 12);
        officeFault("machine 13;", 2, 8);
        told("card 1;", 0, 8);
        // as many go into it, and no more
        for (int held = 1; held <= 12; held++) holds("machine " + held + ";", held);
        holds("", 8);
        // the next OFFICE is without it again
        CardCups x = office("machine 3;", 0);
        Check.office(x, "");
        Check.due("8 again", x.told(0), 8);
    }

    private static void holds(String machine, int held) {
        CardCups x = Check.made(machine + "cups " + (held - 1) + " 0;person;comes 0 0;comes 0 1;", "put;");
        Check.due("full with one more of " + held, x.state(0, held - 1, 1, 0), ONE);
        Check.due("full", x.likely(0, 5), ONE);
        Check.due("not fuller", x.state(1, held - 1, 1, 0), ONE);
        Check.due("full in a DAY", x.day(0, 1, 0) * 100 + x.day(0, 1, 1), held * 100 - 100 + 1);
    }

    private static void cups() {
        Doc.says("\"cups\" C D (at first C clean and D dirty ones are in it, C and D together no more than N:"
            + " C above N at C, else at D; 0 without; the last counts),");
        for (int held = 1; held <= 12; held++) cupsOf("machine " + held + ";", held);
        cupsOf("", 8);
        told("machine 3;", 1, 0);
        told("machine 3;", 2, 0);
        told("cups 8 0;cups 0 8;", 1, 0);
        told("cups 8 0;cups 0 8;", 2, 8);
        told("cups 3 4;cups 0 0;", 1, 0);
        told("cups 3 4;cups 0 0;", 2, 0);
        officeFault("cups 3 4;cups 9 0;", 2, 14);
        officeFault("cups 9 9;", 2, 5);
        officeFault("cups 3;", 1, 6);
        officeFault("cups ;", 1, 5);
        officeFault("cups 3 4 5;", 1, 9);
    }

    private static void cupsOf(String machine, int held) {
        String text = machine + "cups ";
        int at = text.length();
        for (int clean = 0; clean <= held; clean++) {
            String told = text + clean + " ";
            told(told + (held - clean) + ";", 1, clean);
            told(told + (held - clean) + ";", 2, held - clean);
            officeFault(told + (held - clean + 1) + ";", 2, told.length());
        }
        officeFault(text + (held + 1) + " 0;", 2, at);
        officeFault(text + (held + 1) + " 99;", 2, at);
    }

    private static void cardFallWarmSee() {
        Doc.says("\"card\" S (says 1 clean, 0 dirty at first; 0 without; the last counts),");
        number("card ", 3, 0, 1, 0);
        Check.due("1 is clean", Check.made("card 1;person;comes 0 0;").likely(0, 3), ONE);
        Check.due("0 is dirty", Check.made("card 0;person;comes 0 0;").likely(0, 3), 0);
        Doc.says("\"fall\" Q (0 to 16 of 16; 0 without; the last counts),");
        number("fall ", 4, 0, 16, 0);
        Check.due("never", Check.made("fall 0;person;comes 0 0;").likely(0, 3), 0);
        Check.due("one of 16", Check.made("fall 1;person;comes 0 0;").likely(0, 3), ONE / 16);
        Check.due("15 of 16", Check.made("fall 15;person;comes 0 0;").likely(0, 3), ONE / 16 * 15);
        Check.due("always", Check.made("fall 16;person;comes 0 0;").likely(0, 3), ONE);
        Check.due("without", Check.made("person;comes 0 0;").likely(0, 3), 0);
        Doc.says("\"warm\" W (1 to 99 MINUTES; 30 without; the last counts),");
        number("warm ", 5, 1, 99, 30);
        Doc.says("\"see\" K (0 to 16 of 16; 12 without; the last counts),");
        number("see ", 6, 0, 16, 12);
        long[] seen = {0, ONE / 16, ONE / 16 * 15, ONE, ONE / 16 * 12};
        String[] see = {"see 0;", "see 1;", "see 15;", "see 16;", ""};
        for (int i = 0; i < see.length; i++) {
            CardCups x = Check.made(see[i] + "cups 0 1;person;comes 0 0;", "look;clean if seen = 1;");
            Check.due(see[i], x.likely(0, 3), seen[i]);
        }
    }

    /** A CLAUSE with one number, from low to high, else as without. */
    private static void number(String word, int what, int low, int high, int without) {
        if (low > 0) officeFault(word + (low - 1) + ";", 2, word.length());
        told(word + low + ";", what, low);
        told(word + high + ";", what, high);
        officeFault(word + (high + 1) + ";", 2, word.length());
        told("", what, without);
        told("machine 7;person;", what, without);
        told(word + low + ";" + word + high + ";", what, high);
        told(word + high + ";" + word + low + ";", what, low);
        officeFault(word + ";", 1, word.length());
        officeFault(word + low + " " + low + ";", 1, word.length() + 2);
    }

    private static void cost() {
        Doc.says("\"cost\" D X L O S (0 to 99 each: a dirty cup drunk from, a clean one washed again, a look,"
            + " washing one's own, waiting; 9 1 1 3 2 without; the last counts),");
        prices("", DEFAULT_PRICES);
        prices("person;", DEFAULT_PRICES);
        prices("cost 0 0 0 0 0;", 0, 0, 0, 0, 0);
        prices("cost 99 99 99 99 99;", 99, 99, 99, 99, 99);
        prices("cost 1 2 3 4 5;cost 99 0 98 1 97;", 99, 0, 98, 1, 97);
        for (int i = 0; i < 5; i++) {
            String ahead = "cost " + Check.times(i, "7 ");
            officeFault(ahead + "100" + Check.times(4 - i, " 7") + ";", 2, ahead.length());
            officeFault(ahead + ";", 1, ahead.length());
        }
        officeFault("cost 1 2 3 4 5 6;", 1, 15);
        // which is which: a dirty cup, one clean one washed again, a look; nobody pays for his own or waits
        String told = "machine 2;cost 50 40 30 20 10;cups 1 1;person;comes 0 0;";
        Check.due("a dirty one", Check.made("cost 50 40 30 20 10;cups 0 1;person;comes 0 0;", "take;").cost(0), 50);
        Check.due("washed again", Check.made(told, "start;").cost(0), 40);
        Check.due("a look", Check.made(told, "look;").cost(0), 30);
        Check.due("one's own", Check.made(told).worth(0, 1, 0), 20);
        Check.due("waiting, and washed again", Check.made(told).worth(0, 3, 0), 50);
    }

    private static void prices(String text, int... due) {
        CardCups x = office(text, 0);
        for (int i = 0; i < 5; i++) Check.due("price " + i + " of " + text, x.price(i), due[i]);
    }

    private static void people() {
        Doc.says("\"person\" (PEOPLE, numbered from 0 on, 6 at most),");
        for (int n = 0; n <= 6; n++) {
            CardCups x = office(Check.times(n, "person;"), 0);
            Check.due("PEOPLE of " + n, x.told(7), n);
            if (n > 0) Check.due("the last one of " + n, x.person(n - 1, 1), 0);
            Check.missing("one more than " + n, () -> x.person(x.told(7), 1));
        }
        officeFault(Check.times(7, "person;"), 3, 42);
        officeFault(Check.times(6, "person;") + "card 1;  person 7", 3, 51);
        officeFault("person 0;", 1, 7);
        Check.due("the 6th may come", Check.office(new CardCups(), Check.times(6, "person;") + "comes 5 0;"), 1);
        // each has a HABIT of his own
        CardCups x = Check.made(Check.times(6, "person;") + "comes 5 0;", "", "", "", "", "", "turn;");
        for (int p = 0; p < 6; p++) Check.due("STEPS of " + p, x.person(p, 0), p == 5 ? 1 : 0);
        Check.due("the 6th turns it", x.likely(0, 3), ONE);
    }

    private static void visits() {
        Doc.says("or \"comes\" P M (VISITS, 24 at most: PERSON P, told ahead, in MINUTE M, 0 to 480).");
        office("person;", 0);
        for (int n = 1; n <= 24; n += n == 1 ? 22 : 1) {
            CardCups x = office("person;" + Check.times(n, "comes 0 5;"), n);
            Check.due("VISITS of " + n, x.told(8), n);
            Check.due("which the last one is", x.visit(n - 1, 2), n);
        }
        officeFault("person;" + Check.times(25, "comes 0 5;"), 3, 247);
        officeFault("comes 0 5;", 2, 6);
        officeFault("comes 0 5;person;", 2, 6);
        office("person;comes 0 5;", 1);
        officeFault("person;comes 1 5;person;", 2, 13);
        office("person;person;comes 1 5;", 1);
        officeFault("person;person;comes 2 5;", 2, 20);
        officeFault(Check.times(6, "person;") + "comes 6 5;", 2, 48);
        CardCups x = office("person;comes 0 0;comes 0 480;", 2);
        Check.due("MINUTE 0", x.visit(0, 1), 0);
        Check.due("MINUTE 480", x.visit(1, 1), 480);
        officeFault("person;comes 0 481;", 2, 15);
        officeFault("person;comes 0;", 1, 14);
        officeFault("person;comes 0 1 2;", 1, 17);
        Doc.says("VISITS go by MINUTES, those of one MINUTE as told; they are numbered so, from 0 on.");
        CardCups y = office("person;person;person;comes 2 480;comes 1 0;comes 0 480;comes 2 0;comes 1 479;comes 0 0;comes 1 480;", 7);
        int[][] due = {{1, 0}, {2, 0}, {0, 0}, {1, 479}, {2, 480}, {0, 480}, {1, 480}};
        for (int v = 0; v < due.length; v++) {
            Check.due("who is " + v, y.visit(v, 0), due[v][0]);
            Check.due("when is " + v, y.visit(v, 1), due[v][1]);
        }
    }

    // ---- a HABIT, the RULE ----

    private static void habitLength() {
        Doc.says("A HABIT (of a PERSON) is a text of up to 150 bytes: { STEP \";\" }, at most 8; so is the RULE.");
        steps("", 0);
        for (int n = 1; n <= 8; n++) steps(Check.times(n, "look;"), n);
        stepsFault(Check.times(9, "look;"), 3, 40);
        stepsFault(Check.times(8, "look;") + "  look", 3, 42);
        // the 150th byte counts
        String full = "turn;" + Check.times(140, " ") + "turn;";
        Check.due("150 bytes", full.length(), 150);
        steps(full, 2);
        stepsFault(full.substring(0, 149), 1, 149);
        stepsFault(full.substring(0, 149) + ":", 1, 149);
        CardCups x = Check.made("person;comes 0 0;", full);
        Check.due("turned and back", x.likely(0, 3), 0);
        Check.rule(x, full.substring(0, 140) + "     look;");
        Check.due("the RULE's last STEP", x.ruled(1), 1);
        Check.feed(x, Check.times(151, " "));
        Check.illegal("151 bytes of a HABIT", () -> x.habit(0, 151));
        Check.illegal("151 bytes of a RULE", () -> x.rule(151));
        Check.due("150 bytes of a TAPE with more", x.habit(0, 150), 0);
        // of a C as long as 150 bytes can hold, and of one text behind another
        String longest = "turn if 1" + Check.times(68, "+1") + "=69;";
        Check.due("a long C", longest.length(), 149);
        for (int i = 0; i < 8; i++) {
            Check.due("a long C", Check.habit(x, 0, longest), 1);
            Check.due("is so", x.likely(0, 3), ONE);
            Check.due("a long C that is not", Check.habit(x, 0, longest.replace("=69", "<69")), 1);
            Check.due("is not so", x.likely(0, 3), 0);
            Check.due("of the RULE", Check.rule(x, longest), 1);
            Check.due("is so", x.ruled(0), ONE);
        }
        // the 8th STEP is done, of a HABIT and of the RULE
        CardCups y = Check.made("person;comes 0 0;", Check.times(7, "look;") + "turn;");
        Check.rule(y, Check.times(7, "put;") + "turn;");
        Check.due("the 8th STEP", y.likely(0, 3), ONE);
        Check.due("the 8th of the RULE", y.ruled(0), 0);
        Check.rule(y, Check.times(8, "look;"));
        Check.due("all 8", y.ruled(1), 8);
    }

    private static void steps() {
        Doc.says("STEP: ACT, perhaps \"by\" Q (1 to 16), perhaps \"if\" C.");
        steps("turn;turn by 1;turn if 1=1;turn by 16 if 1=1;", 4);
        stepsFault("turn by 0;", 2, 8);
        stepsFault("turn by 17;", 2, 8);
        stepsFault("turn by;", 1, 7);
        stepsFault("turn if;", 1, 7);
        stepsFault("turn by if 1=1;", 1, 8);
        stepsFault("turn if 1=1 by 3;", 1, 12);
        stepsFault("turn by 3 by 3;", 1, 10);
        stepsFault("turn if 1=1 if 1=1;", 1, 12);
        stepsFault("by 3;", 1, 0);
        stepsFault("if 1=1;", 1, 0);
        Check.due("by 1", Check.made("person;comes 0 0;", "turn by 1;").likely(0, 3), ONE / 16);
        Check.due("by 16", Check.made("person;comes 0 0;", "turn by 16;").likely(0, 3), ONE);
        Check.due("by 16, if not", Check.made("person;comes 0 0;", "turn by 16 if 1=2;").likely(0, 3), 0);
        Check.due("by 3, if so", Check.made("person;comes 0 0;", "turn by 3 if 1=1;").likely(0, 3), ONE / 16 * 3);
        Doc.says("ACT: \"put\", \"take\", \"look\", \"start\", \"empty\", \"clean\", \"dirty\", or \"turn\".");
        String[] acts = {"put", "take", "look", "start", "empty", "clean", "dirty", "turn"};
        for (String act : acts) {
            steps(act + ";", 1);
            stepsFault(act + "s;", 1, 0);
            stepsFault(act.substring(0, act.length() - 1) + ";", 1, 0);
            stepsFault(act.toUpperCase() + ";", 1, 0);
        }
        stepsFault("wash;", 1, 0);
        stepsFault("card;", 1, 0);
    }

    private static void claims() {
        Doc.says("C: D { \"or\" D }. D: B { \"and\" B }. B: \"not\" B, \"[\" C \"]\", or E R E; R: <, > or =."
            + " E: T { + or - T }. T: U { * U }.");
        String yes = "1=1";
        String no = "1=2";
        for (int bits = 0; bits < 8; bits++) {
            boolean a = (bits & 4) > 0;
            boolean b = (bits & 2) > 0;
            boolean c = (bits & 1) > 0;
            String p = a ? yes : no;
            String q = b ? yes : no;
            String r = c ? yes : no;
            so(p + " or " + q + " and " + r, a || b && c);
            so(p + " and " + q + " or " + r, a && b || c);
            so("[" + p + " or " + q + "] and " + r, (a || b) && c);
            so("not " + p + " and " + q + " or " + r, !a && b || c);
            so("not [" + p + " or " + q + "] or " + r, !(a || b) || c);
            so("not not " + p + " and not " + q, a && !b);
            so(p + " or " + q + " or " + r, a || b || c);
            so(p + " and " + q + " and " + r, a && b && c);
        }
        String[] so = {"1<2", "2>1", "1=1", "not 2<1", "[1<2]"};
        String[] not = {"2<2", "1>1", "1=2", "not 1<2", "[2<1]"};
        for (int i = 0; i < so.length; i++) {
            for (int k = 0; k < so.length; k++) {
                so(so[i] + " and " + so[k], true);
                so(so[i] + " and " + not[k], false);
                so(not[i] + " or " + so[k], true);
                so(not[i] + " or " + not[k], false);
            }
            so("not [" + so[i] + "]", false);
            so("not [" + not[i] + "]", true);
        }
        so("3<4", true);
        so("4<4", false);
        so("5<4", false);
        so("3>4", false);
        so("4>4", false);
        so("5>4", true);
        so("3=4", false);
        so("4=4", true);
        so("5=4", false);
        so("0-1<0", true);
        so("0>0-1", true);
        so("10-4-3=3", true);
        so("10-4+3=9", true);
        so("2+3*4=14", true);
        so("2*3+4=10", true);
        so("2*3*4=24", true);
        so("20-2*3=14", true);
        so("(20-2)*3=54", true);
        so("20-(2-3)=21", true);
        so("1+1<1*1+2", true);
        claimFaults();
    }

    private static void claimFaults() {
        stepsFault("put if or 1=1;", 1, 7);
        stepsFault("put if 1=1 or;", 1, 13);
        stepsFault("put if 1=1 and;", 1, 14);
        stepsFault("put if 1=1 and or 1=1;", 1, 15);
        stepsFault("put if not;", 1, 10);
        stepsFault("put if not and 1=1;", 1, 11);
        stepsFault("put if [];", 1, 8);
        stepsFault("put if [1=1;", 1, 11);
        stepsFault("put if 1=1];", 1, 10);
        stepsFault("put if [1=1);", 1, 11);
        stepsFault("put if [1];", 1, 9);
        stepsFault("put if (1=1);", 1, 9);
        stepsFault("put if 1;", 1, 8);
        stepsFault("put if 1<;", 1, 9);
        stepsFault("put if <1;", 1, 7);
        stepsFault("put if 1<=1;", 1, 9);
        stepsFault("put if 1=1=1;", 1, 10);
        stepsFault("put if 1<2<3;", 1, 10);
        stepsFault("put if 1!1;", 1, 8);
        stepsFault("put if -1<1;", 1, 7);
        stepsFault("put if 1+<1;", 1, 9);
        stepsFault("put if 1--1<1;", 1, 9);
        stepsFault("put if 1*<1;", 1, 9);
        stepsFault("put if *1<1;", 1, 7);
        stepsFault("put if 1/1=1;", 1, 8);
        stepsFault("put if 1 1=1;", 1, 9);
        stepsFault("put if ()=1;", 1, 8);
        stepsFault("put if (1;", 1, 9);
        stepsFault("put if (1]=1;", 1, 9);
        stepsFault("put if 1)=1;", 1, 8);
        stepsFault("put if [1=1] = 1;", 1, 13);
        stepsFault("put if 1=[1=1];", 1, 9);
        stepsFault("put if 1=not 1;", 1, 9);
        stepsFault("put if in;", 1, 9);
        stepsFault("put if put=1;", 1, 7);
        stepsFault("put if by=1;", 1, 7);
    }

    private static void units() {
        Doc.says("U: N (0 to 999), \"card\" (1 clean, 0), \"warm\" (1, 0), \"in\" (CUPS in it), \"room\" (for how many more),"
            + " \"minute\", \"seen\" (1, if in this VISIT a dirty one was seen, else 0),"
            + " \"last\" (MINUTES since his VISIT ahead; 999 at his first), \"visit\" (which of his, from 1 on), or \"(\" E \")\".");
        so("0=0", true);
        so("999=998+1", true);
        stepsFault("put if 1000=1;", 2, 7);
        stepsFault("put if 1=1000;", 2, 9);
        so("card 1;person;comes 0 0;", "card=1", true);
        so("card 0;person;comes 0 0;", "card=0", true);
        so("machine 12;person;comes 0 0;", "in=0 and room=12", true);
        so("machine 12;cups 5 6;person;comes 0 0;", "in=11 and room=1", true);
        so("machine 12;cups 5 7;person;comes 0 0;", "in=12 and room=0", true);
        so("machine 1;person;comes 0 0;", "in=0 and room=1", true);
        so("machine 1;cups 1 0;person;comes 0 0;", "in=1 and room=0", true);
        so("person;comes 0 0;", "minute=0", true);
        so("person;comes 0 480;", "minute=480", true);
        so("person;comes 0 0;", "warm=0", true);
        so("person;comes 0 0;", "seen=0", true);
        so("person;comes 0 0;", "last=999", true);
        so("person;comes 0 480;", "last=999", true);
        so("person;comes 0 0;", "visit=1", true);
        so("person;comes 0 0;", "((((((2))))))=2", true);
        warmWord();
        seenWord();
        lastWord();
        visitWord();
    }

    private static void warmWord() {
        String told = "warm 10;cups 0 1;person;comes 0 20;comes 0 20;comes 0 29;comes 0 30;";
        CardCups x = Check.made(told, "start if visit=1;clean if warm=1;dirty if warm=0;");
        long[] due = {ONE, ONE, ONE, 0};
        for (int v = 0; v < 4; v++) Check.due("warm in VISIT " + v, x.likely(v, 3), due[v]);
    }

    private static void seenWord() {
        String told = "see 16;cups 0 1;person;person;comes 0 0;comes 0 0;comes 1 0;";
        CardCups x = Check.made(told, "turn if seen=1;look if visit=1;turn if seen=1;", "turn if seen=1;");
        Check.due("seen from the LOOK on", x.likely(0, 3), ONE);
        Check.due("not in his next VISIT", x.likely(1, 3), ONE);
        Check.due("not by another one", x.likely(2, 3), ONE);
        CardCups y = Check.made("see 16;cups 0 1;person;comes 0 0;", "look;look;empty;look;turn if seen=1;");
        Check.due("it was seen, and is out now", y.likely(0, 3), ONE);
        CardCups z = Check.made("see 16;cups 1 0;person;comes 0 0;", "look;put;turn if seen=1;");
        Check.due("there was no dirty one yet", z.likely(0, 3), 0);
    }

    private static void lastWord() {
        String told = "person;person;comes 0 0;comes 1 100;comes 0 480;comes 0 480;";
        CardCups x = Check.made(told, "turn if visit=1 and last=999 or visit=2 and last=480 or visit=3 and last=0;", "turn if last=999;");
        long[] due = {ONE, 0, ONE, 0};
        for (int v = 0; v < 4; v++) Check.due("last, turned " + v, x.likely(v, 3), due[v]);
    }

    private static void visitWord() {
        String told = "person;person;comes 1 0;" + Check.times(23, "comes 0 1;");
        CardCups x = Check.made(told, "turn if visit=23;", "turn if visit=1;");
        Check.due("his first", x.likely(0, 3), ONE);
        Check.due("the 22nd of the other one", x.likely(22, 3), ONE);
        Check.due("the 23rd", x.likely(23, 3), 0);
        CardCups y = Check.made("person;" + Check.times(24, "comes 0 1;"), "turn if visit=24;turn if visit=0 or visit=25;");
        Check.due("the 23rd of 24", y.likely(22, 3), 0);
        Check.due("the 24th", y.likely(23, 3), ONE);
    }

    private static void wraps() {
        Doc.says("Values are whole numbers of 32 bits that wrap.");
        String low = "512*512*512*16";
        so(low + "<0", true);
        so(low + "-1>0", true);
        so(low + "+" + low + "=0", true);
        so("0-" + low + "=" + low, true);
        so(low + "-1=0-1-" + low, true);
        so("(" + low + "-1)*2=0-2", true);
        so("512*512*512*8>0", true);
        so("512*512*512*8*2<0", true);
        so("512*512*512*8*4=0", true);
        so("(999*46+386)*(999*46+386)>0", true);
        so("(999*46+387)*(999*46+387)<0", true);
        so("999*999*999*999=0-1*1", false);
        // 999 to the 4th is 996,005,996,001: 2 to the 32 goes 232 times into it but for 426,416,671,
        // which is 427 times 999 times 999, and 270 times 999, and 514
        so("999*999*999*999<0", true);
        so("999*999*999*999+(427*999+270)*999+514=0", true);
        // values are compared as they are, not by what is between them
        so(low + "<1", true);
        so(low + "-1>0-1", true);
    }

    // ---- a BOOK ----

    private static void bookLength() {
        Doc.says("A BOOK is one of up to 150 bytes: { I \"card\" S \";\" | I \"warm\" S \";\" | I \"in\" N \";\" }, 10 lines at most:");
        lines("", 0);
        for (int n = 1; n <= 10; n++) lines(Check.times(n, "0 in 3;"), n);
        bookFault(Check.times(11, "0 in 3;"), 3, 70);
        String full = "0 in 3;" + Check.times(136, " ") + "0 in 4;";
        Check.due("150 bytes", full.length(), 150);
        lines(full, 2);
        bookFault(full.substring(0, 149), 1, 149);
        bookFault(full.substring(0, 149) + "5", 2, 148);
        CardCups x = Check.made("cups 3 0;person;comes 0 0;");
        Check.book(x, full);
        Check.due("the last line counts", x.fits(0), 0);
        Check.feed(x, Check.times(151, " "));
        Check.illegal("151 bytes of a BOOK", () -> x.book(151));
        // the 10th line is asked
        CardCups y = Check.made("cups 3 0;person;comes 0 0;");
        Check.book(y, Check.times(9, "0 in 3;") + "0 in 3;");
        Check.due("ten that are so", y.fits(0), 1);
        Check.book(y, Check.times(9, "0 in 3;") + "0 in 4;");
        Check.due("the 10th is not so", y.fits(0), 0);
    }

    private static void bookLines() {
        Doc.says("as VISIT I (0 to 23) begins, the card says so, it is warm (1) or not (0), N CUPS (0 to 12) are in it.");
        lines("0 card 0;23 card 1;", 2);
        bookFault("24 card 1;", 2, 0);
        lines("0 warm 0;23 warm 1;", 2);
        bookFault("24 warm 1;", 2, 0);
        lines("0 in 0;23 in 12;", 2);
        bookFault("24 in 1;", 2, 0);
        bookFault("0 card 2;", 2, 7);
        bookFault("0 warm 2;", 2, 7);
        bookFault("0 in 13;", 2, 5);
        bookFault("0 in;", 1, 4);
        bookFault("0 card;", 1, 6);
        bookFault("0 warm;", 1, 6);
        bookFault("0;", 1, 1);
        bookFault("in 3;", 1, 0);
        bookFault("0 see 3;", 1, 2);
        bookFault("0 in 3 3;", 1, 7);
        fits("machine 12;cups 5 7;card 1;", "0 in 12;0 card 1;0 warm 0;", true);
        fits("machine 12;cups 5 7;card 1;", "0 in 11;", false);
        fits("machine 12;", "0 in 0;0 card 0;", true);
        fits("machine 12;", "0 in 1;", false);
        fits("machine 12;", "0 card 1;", false);
        fits("card 1;", "0 card 0;", false);
        fits("", "0 warm 1;", false);
        fits("", "0 warm 0;0 warm 1;", false);
        CardCups x = Check.made("warm 10;cups 1 0;person;" + Check.times(23, "comes 0 20;") + "comes 0 30;", "start if visit=14;");
        Check.book(x, "13 warm 0;14 warm 1;22 warm 1;23 warm 0;");
        Check.due("of VISITS 13, 14, 22 and 23", x.fits(0), 1);
        Check.book(x, "23 warm 1;");
        Check.due("of VISIT 23", x.fits(0), 0);
        Check.book(x, "13 warm 1;");
        Check.due("of VISIT 13, as it begins", x.fits(0), 0);
    }

    private static void fits(String told, String book, boolean due) {
        CardCups x = Check.made(told + "person;comes 0 0;", "put;turn;start;");
        Check.book(x, book);
        Check.due(told + book, x.fits(0), due ? 1 : 0);
    }

    // ---- signs ----

    private static void numbers() {
        Doc.says("Numbers: digits, as many as stand there;");
        told("card " + Check.times(100, "0") + "1;", 3, 1);
        told("machine 00012;cups 007 0005;", 2, 5);
        told("warm 0099;", 5, 99);
        officeFault("card 10;", 2, 5);
        officeFault("card 1 0;", 1, 7);
        officeFault("card " + Check.times(100, "0") + "2;", 2, 5);
        // neither 2 to the 32 and 1 nor 2 to the 64 and 1 is 1
        officeFault("card 4294967297;", 2, 5);
        officeFault("card 18446744073709551617;", 2, 5);
        officeFault("machine " + Check.times(300, "9") + ";", 2, 8);
        officeFault("card 2147483648;", 2, 5);
        officeFault("card -1;", 1, 5);
        officeFault("card +1;", 1, 5);
        officeFault("card 1.0;", 1, 6);
        officeFault("card 1a;", 1, 6);
        officeFault("card 0x1;", 1, 6);
        for (char digit = '0'; digit <= '9'; digit++) {
            officeFault("card 1" + digit + ";", 2, 5);
            officeFault("see 3" + digit + ";", 2, 4);
            told("see 0" + digit + ";", 6, digit - '0');
        }
        officeFault("card /;", 1, 5);
        officeFault("card :;", 1, 5);
        officeFault("card \u00b2;", 1, 5);
        steps("put by 00016 if 000999=999;", 1);
        stepsFault("put by 4294967297;", 2, 7);
        stepsFault("put if 4294967296=0;", 2, 7);
        stepsFault("put if 9999=0;", 2, 7);
        lines("00023 in 00012;", 1);
        bookFault("4294967296 in 1;", 2, 0);
        bookFault("0 in 4294967296;", 2, 5);
    }

    private static void words() {
        Doc.says("WORDS: small letters, as many as stand there;");
        told("card1;", 3, 1);
        told("person;card1;see3;", 6, 3);
        officeFault("cardx 1;", 1, 0);
        officeFault("car 1;", 1, 0);
        officeFault("ca rd 1;", 1, 0);
        officeFault("car\u00e4 1;", 1, 0);
        officeFault("Card 1;", 1, 0);
        officeFault("CARD 1;", 1, 0);
        officeFault("carD 1;", 1, 0);
        officeFault("card{1;", 1, 4);
        officeFault("card`1;", 1, 4);
        officeFault("`card 1;", 1, 0);
        for (char letter = 'a'; letter <= 'z'; letter++) {
            officeFault("card" + letter + " 1;", 1, 0);
            officeFault(letter + "card 1;", 1, 0);
            stepsFault("turn" + letter + ";", 1, 0);
            stepsFault("turn by" + letter + " 3;", 1, 5);
            stepsFault("turn if in" + letter + "=3;", 1, 8);
            bookFault("0 in" + letter + " 1;", 1, 2);
        }
        officeFault("personcomes 0 0;", 1, 0);
        officeFault("person comes 0 0;", 1, 7);
        steps("put by3if1=1or2=2and[not3=3];", 1);
        steps("put if card=card and(in)=1;", 1);
        stepsFault("put byif 1=1;", 1, 4);
        stepsFault("put ifcard=1;", 1, 4);
        stepsFault("put if notcard=1;", 1, 7);
        // the number ends where its digits do, the word behind it not
        stepsFault("put if card=1orcard=1;", 1, 13);
        stepsFault("put if 1=inand 1=1;", 1, 9);
        lines("0card1;1warm1;2in1;", 3);
        bookFault("0cards1;", 1, 1);
        bookFault("0 i n 1;", 1, 2);
    }

    private static void blanks() {
        Doc.says("blanks (32) may stand ahead of all these, and at the end.");
        office(Check.times(20, " "), 0);
        office(Check.times(600, " "), 0);
        steps(Check.times(150, " "), 0);
        lines(Check.times(150, " "), 0);
        told("  machine   12  ;  cups   7   5  ;  ", 2, 5);
        told("machine 12;cups 7  5;  ", 1, 7);
        officeFault("cups 75;", 2, 5);
        steps("  put   by   3   if   [  not   1  <  (  2  +  3  )  *  4  ]  ;  take ;  ", 2);
        lines("  0   in   3  ;  1 card 1 ; ", 2);
        int[] none = {0, 1, 9, 10, 11, 12, 13, 31, 33, 127, 128, 160, 255};
        for (int sign : none) {
            officeFault((char) sign + "card 1;", 1, 0);
            officeFault("card" + (char) sign + "1;", 1, 4);
            officeFault("card 1" + (char) sign + ";", 1, 6);
            officeFault("card 1;" + (char) sign, 1, 7);
            stepsFault("put" + (char) sign + ";", 1, 3);
            stepsFault("put;" + (char) sign, 1, 4);
            bookFault("0" + (char) sign + "in 1;", 1, 1);
            bookFault("0 in 1;" + (char) sign, 1, 7);
        }
    }

    // ---- FAULTS ----

    private static void faultPlaces() {
        Doc.says("FAULTS, the first from the left, at its first byte:");
        officeFault("card 2;fall 17;see 17;", 2, 5);
        officeFault("card 1;fall 17;see 17;", 2, 12);
        officeFault("card 1;fall 16;see 17;", 2, 19);
        officeFault("   card    2;", 2, 11);
        officeFault("   kard    2;", 1, 3);
        officeFault("card 1   2;", 1, 9);
        officeFault("cost 1 2 100 100 &", 2, 9);
        officeFault("card 00002;", 2, 5);
        stepsFault("put by 17;pour;", 2, 7);
        stepsFault("put by 16;pour;", 1, 10);
        stepsFault("put if 1000=1 or &", 2, 7);
        bookFault("0 in 13;24 in 1;", 2, 5);
        bookFault("0 in 12;24 in 1;", 2, 8);
        Doc.says("1 what can't stand there (at the length, if the text ends too early);");
        cutOffice("machine 4 ; cups 1 2;cost 1 2 3 4 5;person;comes 0 10;warm 9;");
        cutSteps("put by 16 if [not card = 1 or (in+2)*3 > room] and 1<2 ; take;");
        cutBook("0 in 12 ; 1 card 1;23 warm 0;");
        officeFault("card", 1, 4);
        officeFault("card   ", 1, 7);
        officeFault("  ;", 1, 2);
        officeFault("1;", 1, 0);
        officeFault("&", 1, 0);
        officeFault("put;", 1, 0);
        stepsFault("card 1;", 1, 0);
        stepsFault("1;", 1, 0);
        bookFault("put;", 1, 0);
        Doc.says("2 a number that is none such;");
        officeFault("machine 13", 2, 8);
        officeFault("machine 13&", 2, 8);
        stepsFault("put by 0", 2, 7);
        bookFault("24", 2, 0);
        bookFault("0 in 13", 2, 5);
    }

    /** Where a text that is cut ends too early: at its length, or at a word that is none as it is cut. */
    private static int cutPlace(String text, int n) {
        if (n > 0 && n < text.length() && isLetter(text.charAt(n - 1)) && isLetter(text.charAt(n))) {
            int at = n;
            while (at > 0 && isLetter(text.charAt(at - 1))) at--;
            return at;
        }
        String ahead = text.substring(0, n).trim();
        return ahead.isEmpty() || ahead.endsWith(";") ? -1 : n;
    }

    private static boolean isLetter(char sign) {
        return sign >= 'a' && sign <= 'z';
    }

    private static void cutOffice(String text) {
        for (int n = 0; n <= text.length(); n++) {
            CardCups x = new CardCups();
            int place = cutPlace(text, n);
            Check.feed(x, text);
            int answer = x.office(n);
            if (place >= 0) Check.due("an OFFICE cut at " + n, answer, -9);
            Check.due("the place, cut at " + n, x.fault(), place);
        }
    }

    private static void cutSteps(String text) {
        for (int n = 0; n <= text.length(); n++) {
            CardCups x = Check.made("person;");
            int place = cutPlace(text, n);
            Check.feed(x, text);
            int answer = x.habit(0, n);
            if (place >= 0) Check.due("a HABIT cut at " + n, answer, -9);
            Check.due("the place, cut at " + n, x.fault(), place);
            Check.feed(x, text);
            answer = x.rule(n);
            if (place >= 0) Check.due("a RULE cut at " + n, answer, -9);
            Check.due("the RULE's place, cut at " + n, x.fault(), place);
        }
    }

    private static void cutBook(String text) {
        for (int n = 0; n <= text.length(); n++) {
            CardCups x = new CardCups();
            int place = cutPlace(text, n);
            Check.feed(x, text);
            int answer = x.book(n);
            if (place >= 0) Check.due("a BOOK cut at " + n, answer, -9);
            Check.due("the place, cut at " + n, x.fault(), place);
        }
    }

    private static void tooMany() {
        Doc.says("3 a CLAUSE, PERSON, VISIT or STEP (at its word) or line (at its I) too many,");
        String sixty = Check.times(60, "card 1;");
        officeFault(sixty + "  see 3;", 3, 422);
        officeFault(sixty + "person;", 3, 420);
        officeFault(sixty + "comes 0 0;", 3, 420);
        officeFault(sixty + "see 99;", 3, 420);
        officeFault(sixty + "see", 3, 420);
        told(sixty + "    ", 3, 1);
        officeFault(Check.times(6, "person;") + "  person;", 3, 44);
        officeFault(Check.times(6, "person;") + "person", 3, 42);
        officeFault("person;" + Check.times(24, "comes 0 1;") + "  comes 0 1;", 3, 249);
        officeFault("person;" + Check.times(24, "comes 0 1;") + "comes 9 999;", 3, 247);
        officeFault("person;" + Check.times(24, "comes 0 1;") + "comes", 3, 247);
        stepsFault(Check.times(8, "put;") + "  put;", 3, 34);
        stepsFault(Check.times(8, "put;") + "put by 17;", 3, 32);
        stepsFault(Check.times(8, "put;") + "put", 3, 32);
        steps(Check.times(8, "put;") + "   ", 8);
        bookFault(Check.times(10, "1 in 1;") + "  1 in 1;", 3, 72);
        bookFault(Check.times(10, "1 in 1;") + "1 in 13;", 3, 70);
        bookFault(Check.times(10, "1 in 1;") + "1 out 1;", 3, 70);
        bookFault(Check.times(10, "1 in 1;") + "1", 3, 70);
        lines(Check.times(10, "1 in 1;") + "   ", 10);
    }

    private static void openAtOneTime() {
        Doc.says("or a 7th of ( [ and not that is open at one time (a not till its B ends);");
        for (int square = 0; square <= 6; square++) {
            String shut = "1=1" + Check.times(square, "]") + ";";
            String open = "put if " + Check.times(square, "[") + Check.times(6 - square, "not ");
            steps(open + shut, 1);
            stepsFault(open + "not " + shut, 3, open.length());
            stepsFault(open + "[" + shut, 3, open.length());
            stepsFault(open + "(" + shut, 3, open.length());
        }
        steps("put if ((((((1))))))=1;", 1);
        stepsFault("put if (((((((1)))))))=1;", 3, 13);
        stepsFault("put if 1=(((((((1)))))));", 3, 15);
        steps("put if [[[[[[1=1]]]]]];", 1);
        stepsFault("put if [[[[[[[1=1]]]]]]];", 3, 13);
        steps("put if " + Check.times(6, "not ") + "1=1;", 1);
        stepsFault("put if " + Check.times(7, "not ") + "1=1;", 3, 31);
        // of all kinds together
        steps("put if not [not [not (1)=1]];", 1);
        stepsFault("put if not [not [not ((1))=1]];", 3, 22);
        steps("put if not [not [not [1=1]]];", 1);
        stepsFault("put if not [not [not [not 1=1]]];", 3, 22);
        stepsFault("put if not [not [not [[1=1]]]];", 3, 22);
        stepsFault("put if [[[(((1+(2))))=1]]];", 3, 15);
        // what is closed is open no more
        steps("put if ((((((1))))))=((((((1))))));", 1);
        steps("put if ((((((1))))))+((((((1))))))=2;", 1);
        steps("put if [[[[[[1=1]]]]]] or [[[[[[1=1]]]]]];", 1);
        steps("put if [1=1] and [1=1] and [1=1] and [1=1] and [1=1] and [1=1] and [1=1];", 1);
        steps("put if (1)+(1)+(1)+(1)+(1)+(1)+(1)=7;", 1);
        // a not is open till its B ends, be it over the next "and" or "or"
        steps("put if not 1=1 and not 1=1 and not 1=1 or not 1=1 or not 1=1 or not 1=1 or not 1=1;", 1);
        steps("put if not not not not not not 1=1 or not not not not not not 1=1;", 1);
        steps("put if not (((((1)))))=1 and ((((((1))))))=1;", 1);
        stepsFault("put if not ((((((1))))))=1;", 3, 16);
        stepsFault("put if not 1=((((((1))))));", 3, 18);
        stepsFault("put if not [[[[[[1=1]]]]]];", 3, 16);
        stepsFault("put if not [1=1 and [[[[[1=1]]]]]];", 3, 24);
        // at the 7th itself, with blanks ahead, whatever comes behind it
        stepsFault("put if ( ( ( ( ( (   (", 3, 21);
        stepsFault("put if [[[[[[  not &", 3, 15);
        // what can't stand there is none that is open
        stepsFault("put if ((((((1[", 1, 14);
        stepsFault("put if ((((((not", 1, 13);
        stepsFault("put if [[[[[[]", 1, 13);
    }

    private static void machineLate() {
        Doc.says("4 machine too late, or again (at the word);");
        String[] ahead = {"cups 1 1;", "card 1;", "fall 1;", "warm 1;", "see 1;", "cost 1 1 1 1 1;", "person;", "person;comes 0 1;"};
        for (String one : ahead) {
            officeFault(one + "machine 4;", 4, one.length());
            officeFault(one + "  machine 4;", 4, one.length() + 2);
        }
        officeFault("machine 4;machine 4;", 4, 10);
        officeFault("machine 4;card 1;machine 4;", 4, 17);
        officeFault("machine 4;machine 13;", 4, 10);
        officeFault("machine 4;machine", 4, 10);
        told("   machine 4;", 0, 4);
    }

    private static void leastOfOnePlace() {
        Doc.says("of one the least.");
        String sixty = Check.times(60, "card 1;");
        // 3 ahead of 4
        officeFault(sixty + "machine 4;", 3, 420);
        officeFault("machine 4;" + Check.times(59, "card 1;") + "machine 4;", 3, 423);
        officeFault("machine 4;" + Check.times(58, "card 1;") + "machine 4;", 4, 416);
        // 1 ahead of 3
        officeFault(sixty + "cart 1;", 1, 420);
        officeFault(sixty + ";", 1, 420);
        officeFault(sixty + "1;", 1, 420);
        stepsFault(Check.times(8, "put;") + "pour;", 1, 32);
        stepsFault(Check.times(8, "put;") + ";", 1, 32);
        bookFault(Check.times(10, "1 in 1;") + "in 1;", 1, 70);
        bookFault(Check.times(10, "1 in 1;") + ";", 1, 70);
        // 2 ahead of 3
        bookFault(Check.times(10, "1 in 1;") + "24 in 1;", 2, 70);
        bookFault(Check.times(10, "1 in 1;") + "23 in 1;", 3, 70);
        // 3 once, for a PERSON or a VISIT that is a CLAUSE too many as well
        officeFault(Check.times(6, "person;") + Check.times(54, "card 1;") + "person;", 3, 420);
        officeFault("person;" + Check.times(24, "comes 0 1;") + Check.times(35, "card 1;") + "comes 0 1;", 3, 492);
    }

    // ---- promises 2 to 7 ----

    private static void promises() {
        feed();
        officeAnew();
        takenOver();
        place();
    }

    private static void feed() {
        Doc.section("Promise 2");
        Doc.says("Twenty bytes come on the TAPE, of each number the highest first: how many there are;"
            + " NONE, doing nothing, if there would be more than 600.");
        CardCups x = new CardCups();
        // "card 1;see 3;fall 5;"
        Check.due("feed", x.feed(0x63617264, 0x20313b73, 0x65652033, 0x3b66616c, 0x6c20353b), 20);
        Check.due("office", x.office(20), 0);
        Check.due("told", x.told(3) * 10000 + x.told(6) * 100 + x.told(4), 10305);
        for (int i = 1; i <= 30; i++) Check.due("feed " + i, x.feed(i, -i, 0, -1, 1 << 31), 20 * i);
        Check.due("the 31st", x.feed(0, 0, 0, 0, 0), -1);
        Check.due("and again", x.feed(0, 0, 0, 0, 0), -1);
        Check.due("bytes", x.count(1), 600);
        Twins.idle("a feed too many", () -> fed(600), y -> y.feed(0x6c6f6f6b, 0x3b000000, 0, 0, 0));
        CardCups z = fed(580);
        Check.due("up to 600", z.feed(0, 0, 0, 0, 0), 600);
        // none of the twenty bytes comes in part
        CardCups w = fed(600);
        w.feed(0x6c6f6f6b, 0x3b6c6f6f, 0x6b3b6c6f, 0x6f6b3b00, 0);
        Check.due("its text", w.office(600), -9);
        Check.due("the first of 600 that is none", w.fault(), 7);
        Check.due("room again", w.feed(0, 0, 0, 0, 0), 20);
    }

    /** A TAPE of so many bytes: a text, then noughts. */
    private static CardCups fed(int bytes) {
        CardCups x = RefusalEdges.emptyTape();
        Check.feed(x, "card 1;" + Check.times(bytes - 7, "\0"));
        Check.due("bytes", x.count(1), bytes);
        return x;
    }

    private static void officeAnew() {
        Doc.section("Promise 3");
        Doc.says("The first n bytes of the TAPE (empty then) are the OFFICE"
            + " (no HABITS, RULE, BOOK, IMAGES, nothing to undo): how many VISITS;");
        CardCups x = RefusalEdges.house();
        String text = "person;person;person;comes 0 10;comes 1 30;";
        Check.office(x, "");
        Check.feed(x, text + "comes 0 20;");
        Check.due("the first bytes alone", x.office(text.length()), 2);
        Check.due("empty then", x.count(1), 0);
        Twins.alike("as of a new object", RefusalEdges.house(), RefusalEdges.house(), true);
        Twins.alike("an OFFICE over an old one", anew(text, false), officeOf(text), true);
        Twins.alike("of which all was asked", anew(text, true), officeOf(text), true);
        CardCups none = RefusalEdges.house();
        Check.due("none of its bytes", none.office(0), 0);
        Twins.alike("an OFFICE without CLAUSES", none, new CardCups(), true);
        Doc.says("or the FAULT less 10 (all but the TAPE stays).");
        Twins.Maker house = RefusalEdges::emptyTape;
        Twins.faulty("1", house, "machine 3;cups 1 1;card 1;person;comes 0 3;cost 0 0 0 0 0;oh", y -> y.office(60), 1, 58);
        Twins.faulty("2", house, "machine 3;warm 5;person;comes 0 3;see 17;", y -> y.office(41), 2, 38);
        Twins.faulty("3", house, "fall 9;" + Check.times(7, "person;"), y -> y.office(56), 3, 49);
        Twins.faulty("4", house, "person;comes 0 1;machine 3;", y -> y.office(27), 4, 17);
    }

    /** An OFFICE over one with something of all, of which much was asked ahead of it, or not. */
    private static CardCups anew(String text, boolean asked) {
        CardCups old = RefusalEdges.emptyTape();
        if (asked) Twins.ask(old);
        Check.feed(old, text + "comes 0 20;");
        Check.due("over an old one", old.office(text.length()), 2);
        return old;
    }

    private static CardCups officeOf(String text) {
        CardCups x = new CardCups();
        Check.office(x, text);
        return x;
    }

    private static void takenOver() {
        Twins.Maker house = RefusalEdges::emptyTape;
        Doc.section("Promise 4");
        Doc.says("how many STEPS.");
        Twins.faulty("a HABIT, 1", house, "take;look if in=3;pour;", y -> y.habit(1, 23), 1, 18);
        Twins.faulty("a HABIT, 2", house, "take;look if in=3;put by 17;", y -> y.habit(1, 28), 2, 25);
        Twins.faulty("a HABIT, 3", house, Check.times(9, "take;"), y -> y.habit(1, 45), 3, 40);
        CardCups x = RefusalEdges.house();
        Check.due("none of its bytes", x.habit(0, 0), 0);
        Check.due("the TAPE is empty then", x.count(1), 0);
        Check.due("no STEPS", x.person(0, 0), 0);
        CardCups w = RefusalEdges.house();
        Check.due("the first bytes alone", w.habit(0, 10), 1);
        Check.due("the TAPE is empty then", w.count(1), 0);
        Doc.section("Promise 5");
        Doc.says("how many STEPS.");
        Twins.faulty("a RULE, 1", house, "take;look if in=3;pour;", y -> y.rule(23), 1, 18);
        Twins.faulty("a RULE, 2", house, "take;look if in=3;put by 17;", y -> y.rule(28), 2, 25);
        Twins.faulty("a RULE, 3", house, Check.times(9, "take;"), y -> y.rule(45), 3, 40);
        Check.feed(x, "look;put;");
        Check.due("the first bytes alone", x.rule(5), 1);
        Check.due("the TAPE is empty then", x.count(1), 0);
        Check.due("looks of five VISITS", x.ruled(1), 5);
        Check.due("none of its bytes", x.rule(0), 0);
        Check.due("no looks", x.ruled(1), 0);
        Doc.section("Promise 6");
        Doc.says("how many lines.");
        Twins.faulty("a BOOK, 1", house, "0 in 12;1 on 3;", y -> y.book(15), 1, 10);
        Twins.faulty("a BOOK, 2", house, "0 in 12;1 in 13;", y -> y.book(16), 2, 13);
        Twins.faulty("a BOOK, 3", house, Check.times(11, "0 in 1;"), y -> y.book(77), 3, 70);
        Check.feed(x, "1 card 0;0 in 12;");
        Check.due("the first bytes alone", x.book(9), 1);
        Check.due("the TAPE is empty then", x.count(1), 0);
        Check.due("none of its bytes", x.book(0), 0);
        Check.due("no lines", x.told(9), 0);
        Check.due("all fits", x.fits(0), 1);
    }

    private static void place() {
        Doc.section("Promise 7");
        Doc.says("The place of the FAULT of the latest text; NONE without.");
        CardCups x = new CardCups();
        Check.due("no text", x.fault(), -1);
        Check.office(x, "&");
        Check.due("the first byte", x.fault(), 0);
        Check.rule(x, "");
        Check.due("a text without", x.fault(), -1);
        Check.book(x, "0 in 1;&");
        Check.due("a BOOK's", x.fault(), 7);
        Check.illegal("office", () -> x.office(1));
        Check.due("what is refused is no text", x.fault(), 7);
        Check.rule(x, "put by 9;put by 0;");
        Check.due("a RULE's", x.fault(), 16);
        Check.office(x, "person;");
        Check.due("an OFFICE without", x.fault(), -1);
        Check.habit(x, 0, "put" + Check.times(147, " "));
        Check.due("a HABIT's, at its length", x.fault(), 150);
        Check.office(x, Check.times(596, " ") + "card");
        Check.due("an OFFICE's, at its length", x.fault(), 600);
        Check.book(x, "0 in 1;");
        Check.due("a BOOK without", x.fault(), -1);
    }
}
