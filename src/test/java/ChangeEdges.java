/** Promises 39 to 47: none, one less than the most, the most; what is undone, kept and counted. */
final class ChangeEdges {
    private static final long ONE = Check.ONE;

    private ChangeEdges() {}

    static void all() {
        come();
        skip();
        shift();
        teach();
        undo();
        image();
        restore();
        status();
        count();
        manyCalls();
        reckonedAnew();
    }

    private static void diary(String what, CardCups x, int... due) {
        Check.due(what + ": VISITS", x.told(8), due.length / 2);
        for (int v = 0; v < due.length / 2 && v < x.told(8); v++) {
            Check.due(what + ": who, " + v, x.visit(v, 0), due[2 * v]);
            Check.due(what + ": when, " + v, x.visit(v, 1), due[2 * v + 1]);
        }
    }

    /** Two PEOPLE and so many VISITS of the first in MINUTE 7. */
    private static CardCups office(int visits) {
        return Check.made("person;person;" + Check.times(visits, "comes 0 7;"), "look;", "look;look;");
    }

    /** So many changes, each of which can be undone; VISIT 0 is in MINUTE 7 then. */
    private static CardCups changed(int visits, int changes) {
        CardCups x = office(visits);
        for (int i = 0; i < changes; i++) Check.due("a change", x.shift(0, 7), visits - 1);
        return x;
    }

    private static void come() {
        Doc.section("Promise 39");
        Doc.says("One VISIT more (behind those of its MINUTE): its number; -1: there are 24, or 20 changes");
        CardCups x = Check.made("person;person;comes 0 0;comes 0 240;comes 0 480;", "look;", "look;look;");
        Check.due("behind that of MINUTE 0", x.come(1, 0), 1);
        Check.due("behind that of MINUTE 480", x.come(1, 480), 4);
        Check.due("between", x.come(1, 239), 2);
        Check.due("behind that of 240", x.come(1, 240), 4);
        diary("come", x, 0, 0, 1, 0, 1, 239, 0, 240, 1, 240, 0, 480, 1, 480);
        Check.due("they do what is theirs", x.cost(0), 3 + 4 * 2);
        CardCups first = Check.made("person;comes 0 1;", "look;");
        Check.due("ahead of all", first.come(0, 0), 0);
        CardCups none = Check.made("person;", "look;");
        Check.due("the first of all", none.come(0, 480), 0);
        Check.due("it counts", none.cost(0), 1);
        CardCups y = office(23);
        Check.due("the 24th", y.come(1, 480), 23);
        Check.due("the 25th", y.come(1, 480), -1);
        Twins.idle("there are 24", () -> office(24), z -> z.come(1, 7));
        Twins.idle("there are 24, by a change", () -> { CardCups z = office(23); z.come(0, 7); return z; }, z -> z.come(1, 7));
        CardCups w = changed(2, 19);
        Check.due("the 20th change", w.come(0, 480), 2);
        Check.due("the 21st", w.come(0, 480), -1);
        Twins.idle("20 changes", () -> changed(2, 20), z -> z.come(1, 7));
        Twins.idle("24 and 20 changes", () -> changed(24, 20), z -> z.come(1, 7));
        Check.missing("no PERSON, ahead of 24", () -> office(24).come(2, 7));
        Check.illegal("no MINUTE, ahead of 24", () -> office(24).come(1, 481));
        CardCups u = office(24);
        u.skip(3);
        Check.due("room again", u.come(1, 8), 23);
        u.undo();
        u.undo();
        Check.due("and none", u.come(1, 8), -1);
    }

    private static void skip() {
        Doc.section("Promise 40");
        Doc.says("A VISIT is left out: how many there are; -1: 20 changes.");
        CardCups x = Check.made("person;person;comes 0 1;comes 1 2;comes 0 3;");
        Check.due("the last one", x.skip(2), 2);
        diary("without the last one", x, 0, 1, 1, 2);
        Check.due("the first one", x.skip(0), 1);
        diary("without the first one", x, 1, 2);
        Check.due("the only one", x.skip(0), 0);
        diary("without any", x);
        Check.missing("none is left", () -> x.skip(0));
        Check.due("nobody comes", x.person(0, 1) + x.person(1, 1), 0);
        Check.due("no first VISIT", x.person(0, 2), -1);
        CardCups all = office(24);
        Check.due("of 24, one between", all.skip(11), 23);
        CardCups w = changed(3, 19);
        Check.due("the 20th change", w.skip(0), 2);
        Check.due("the 21st", w.skip(0), -1);
        Twins.idle("20 changes", () -> changed(3, 20), z -> z.skip(1));
        Twins.missing("no VISIT, ahead of 20 changes", () -> changed(3, 20), z -> z.skip(3));
    }

    private static void shift() {
        Doc.section("Promise 41");
        Doc.says("A VISIT is in another MINUTE (behind those of it): its number then; -1: 20 changes.");
        CardCups x = Check.made("person;person;comes 0 10;comes 1 20;comes 1 20;comes 0 30;");
        Check.due("to MINUTE 0", x.shift(3, 0), 0);
        diary("MINUTE 0", x, 0, 0, 0, 10, 1, 20, 1, 20);
        Check.due("to MINUTE 480", x.shift(0, 480), 3);
        diary("MINUTE 480", x, 0, 10, 1, 20, 1, 20, 0, 480);
        Check.due("behind those of 20", x.shift(0, 20), 2);
        diary("MINUTE 20", x, 1, 20, 1, 20, 0, 20, 0, 480);
        Check.due("ahead of them", x.shift(2, 19), 0);
        diary("MINUTE 19", x, 0, 19, 1, 20, 1, 20, 0, 480);
        Check.due("in its own MINUTE, behind the other one", x.shift(1, 20), 2);
        Check.due("in its own MINUTE, alone", x.shift(3, 480), 3);
        Check.due("each is a change", x.count(2), 6);
        diary("MINUTE 480 again", x, 0, 19, 1, 20, 1, 20, 0, 480);
        CardCups only = Check.made("person;comes 0 10;");
        Check.due("the only one", only.shift(0, 400), 0);
        CardCups w = changed(3, 19);
        Check.due("the 20th change", w.shift(0, 8), 2);
        Check.due("the 21st", w.shift(0, 9), -1);
        Twins.idle("20 changes", () -> changed(3, 20), z -> z.shift(1, 9));
        Twins.missing("no VISIT, ahead of 20 changes", () -> changed(3, 20), z -> z.shift(3, 9));
        CardCups all = office(24);
        Check.due("the first of 24", all.shift(0, 8), 23);
        Check.due("the last of 24", all.shift(23, 6), 0);
    }

    private static void teach() {
        Doc.section("Promise 42");
        Doc.says("The one PERSON does as the other one from now on (a copy of his HABIT; no change to be undone, in no IMAGE): how many STEPS.");
        CardCups x = Check.made("person;person;person;comes 0 0;comes 1 0;", "look;", Check.times(8, "look;"));
        Check.due("eight STEPS", x.teach(0, 1), 8);
        Check.due("COST", x.cost(0), 16);
        Check.due("no STEPS", x.teach(1, 2), 0);
        Check.due("COST", x.cost(0), 8);
        Check.due("his own", x.teach(0, 0), 8);
        Check.due("COST", x.cost(0), 8);
        Check.habit(x, 0, "look;");
        Check.due("back again", x.teach(2, 0), 1);
        Check.habit(x, 2, "put;put;");
        Check.due("it is a copy", x.person(0, 0), 1);
        Check.due("no change", x.count(2), 0);
        Check.due("nothing to undo", x.undo(), -1);
        x.come(0, 5);
        x.image();
        x.teach(0, 2);
        Check.due("undo", x.undo(), 0);
        Check.due("is not undone", x.person(0, 0), 2);
        x.restore();
        Check.due("is not restored", x.person(0, 0), 2);
        CardCups many = changed(2, 20);
        Check.due("with 20 changes", many.teach(0, 1), 2);
        Check.due("the 6th by the 1st", Check.made(Check.times(6, "person;"), "look;").teach(5, 0), 1);
    }

    private static void undo() {
        Doc.section("Promise 43");
        Doc.says("The latest change (come, skip, shift) that was not undone is undone: how many are left; -1: there is none.");
        Twins.idle("there is none", () -> office(2), z -> z.undo());
        Twins.idle("nobody", CardCups::new, z -> z.undo());
        CardCups x = Check.made("person;person;comes 0 1;comes 1 2;");
        x.skip(0);
        x.come(0, 3);
        x.shift(0, 4);
        diary("changed", x, 0, 3, 1, 4);
        Check.due("shift", x.undo(), 2);
        diary("shift undone", x, 1, 2, 0, 3);
        x.skip(1);
        Check.due("another one", x.undo(), 2);
        diary("another one undone", x, 1, 2, 0, 3);
        Check.due("come", x.undo(), 1);
        diary("come undone", x, 1, 2);
        Check.due("skip", x.undo(), 0);
        diary("skip undone", x, 0, 1, 1, 2);
        Check.due("there is none", x.undo(), -1);
        CardCups y = office(3);
        for (int i = 0; i < 20; i++) y.shift(2, 10 + i);
        for (int i = 19; i >= 0; i--) {
            Check.due("undo " + i, y.undo(), i);
            Check.due("MINUTE " + i, y.visit(2, 1), i == 0 ? 7 : 9 + i);
        }
        Check.due("there is none", y.undo(), -1);
        for (int i = 0; i < 20; i++) Check.due("20 again", y.shift(2, 10 + i), 2);
        Check.due("and no more", y.shift(2, 40), -1);
        Check.due("one less", y.undo(), 19);
        Check.due("one more", y.shift(2, 50), 2);
        Check.due("what was undone is gone", y.undo(), 19);
        Check.due("MINUTE", y.visit(2, 1), 28);
    }

    private static void image() {
        Doc.section("Promise 44");
        Doc.says("An IMAGE of VISITS, changes that can be undone (not of HABITS, the RULE, the BOOK): how many there are; -1: there are 3.");
        CardCups x = office(2);
        for (int i = 1; i <= 3; i++) Check.due("image", x.image(), i);
        Check.due("the 4th", x.image(), -1);
        Twins.idle("there are 3", () -> threeImages(), z -> z.image());
        x.restore();
        Check.due("room again", x.image(), 3);
        CardCups y = RefusalEdges.emptyTape();
        y.image();
        Check.habit(y, 0, "look;");
        Check.rule(y, "look;look;");
        Check.book(y, "");
        y.skip(0);
        y.restore();
        Check.due("VISITS are in it", y.told(8), 5);
        Check.due("HABITS are not", y.person(0, 0), 1);
        Check.due("the RULE is not", y.ruled(1), 10);
        Check.due("the BOOK is not", y.told(9), 0);
        CardCups none = new CardCups();
        Check.due("of nobody", none.image(), 1);
        Check.due("restored", none.restore(), 0);
    }

    /** Three IMAGES of 0, 20 and 1 changes; 2 changes now. */
    private static CardCups threeImages() {
        CardCups x = office(3);
        x.image();
        for (int i = 0; i < 20; i++) x.shift(2, 10 + i);
        x.image();
        for (int i = 0; i < 19; i++) x.undo();
        x.image();
        x.skip(0);
        return x;
    }

    private static void restore() {
        Doc.section("Promise 45");
        Doc.says("All is as in the latest IMAGE, which is gone: how many are left; -1: there is none.");
        Twins.idle("there is none", () -> changed(2, 3), z -> z.restore());
        Twins.idle("nobody", CardCups::new, z -> z.restore());
        CardCups x = threeImages();
        Check.due("the third", x.restore(), 2);
        diary("of 1 change", x, 0, 7, 0, 7, 0, 10);
        Check.due("1 change", x.count(2), 1);
        x.undo();
        diary("undone", x, 0, 7, 0, 7, 0, 7);
        Check.due("the second", x.restore(), 1);
        diary("of 20 changes", x, 0, 7, 0, 7, 0, 29);
        Check.due("20 changes", x.count(2), 20);
        Check.due("no room for one", x.skip(0), -1);
        for (int i = 19; i >= 0; i--) {
            Check.due("undo " + i, x.undo(), i);
            Check.due("MINUTE " + i, x.visit(2, 1), i == 0 ? 7 : 9 + i);
        }
        x.come(1, 480);
        Check.due("the first", x.restore(), 0);
        diary("of no change", x, 0, 7, 0, 7, 0, 7);
        Check.due("nothing to undo", x.undo(), -1);
        Check.due("there is none", x.restore(), -1);
        Check.due("reckoned anew", x.cost(0), 3);
        CardCups y = office(1);
        y.image();
        y.skip(0);
        Check.due("no VISITS", y.cost(0), 0);
        y.restore();
        Check.due("one VISIT", y.cost(0), 1);
        CardCups z = office(0);
        z.image();
        for (int v = 0; v < 20; v++) z.come(0, v);
        Check.due("20 VISITS", z.cost(0), 20);
        z.restore();
        Check.due("none again", z.told(8) + z.cost(0), 0);
    }

    private static void status() {
        Doc.section("Promise 46");
        Doc.says("How many calls were refused: 0 NoSuchElementException, 1 IllegalArgumentException; NONE for others. (No IMAGE keeps it.)");
        CardCups x = office(2);
        int[] others = {-1, 2, 3, Integer.MIN_VALUE, Integer.MAX_VALUE};
        for (int what : others) Check.due("status " + what, x.status(what), -1);
        Check.due("none yet", x.status(0) + x.status(1), 0);
        x.image();
        for (int i = 1; i <= 50; i++) {
            Check.missing("VISIT", () -> x.likely(2, 9));
            Check.due("missing", x.status(0), i);
            Check.due("illegal", x.status(1), i - 1);
            Check.illegal("what", () -> x.likely(1, 9));
            Check.due("illegal", x.status(1), i);
        }
        x.restore();
        Check.due("as it was counted", x.status(0) * 1000 + x.status(1), 50050);
        // what answers -1 or a FAULT is not refused, nor is an OFFICE a new count
        x.restore();
        x.undo();
        Check.office(x, "&");
        Check.office(x, "person;");
        Check.due("status of none is none", x.status(7), -1);
        Check.due("count of none is none", x.count(7), -1);
        Check.due("as it was counted", x.status(0) * 1000 + x.status(1), 50050);
        for (int i = 0; i < 30; i++) x.feed(0, 0, 0, 0, 0);
        Check.due("a feed too many", x.feed(0, 0, 0, 0, 0), -1);
        Check.due("is not refused", x.status(0) * 1000 + x.status(1), 50050);
    }

    private static void count() {
        Doc.section("Promise 47");
        Doc.says("0 IMAGES, 1 bytes of the TAPE, 2 changes that can be undone; NONE for others.");
        CardCups x = office(2);
        int[] others = {-1, 3, 4, Integer.MIN_VALUE, Integer.MAX_VALUE};
        for (int what : others) Check.due("count " + what, x.count(what), -1);
        for (int i = 0; i <= 3; i++) {
            Check.due("IMAGES", x.count(0), i);
            x.image();
        }
        Check.due("3 IMAGES", x.count(0), 3);
        for (int i = 0; i <= 30; i++) {
            Check.due("bytes", x.count(1), 20 * i);
            x.feed(1, 2, 3, 4, 5);
        }
        Check.due("600 bytes", x.count(1), 600);
        for (int i = 0; i <= 20; i++) {
            Check.due("changes", x.count(2), i);
            x.shift(0, 7);
        }
        Check.due("20 changes", x.count(2), 20);
        x.undo();
        Check.due("19 changes", x.count(2), 19);
        Check.due("bytes as before", x.count(1), 600);
        Check.due("IMAGES as before", x.count(0), 3);
        x.restore();
        Check.due("2 IMAGES", x.count(0), 2);
        Check.due("no changes in it", x.count(2), 0);
        x.rule(0);
        Check.due("no bytes", x.count(1), 0);
    }

    /** Two PEOPLE, three VISITS, an IMAGE of one VISIT less, a change to undo. */
    private static CardCups small() {
        CardCups x = Check.made("machine 3;cups 1 1;card 1;fall 2;see 9;person;person;comes 0 0;comes 1 9;",
            "take;put;look;turn by 9;", "start by 3 if in=2;take;");
        Check.rule(x, "take;look by 3;");
        Check.book(x, "1 in 2;");
        x.image();
        x.come(0, 8);
        return x;
    }

    private static void reckonedAnew() {
        Check.part("reckoned anew");
        Twins.Maker small = ChangeEdges::small;
        Twins.anew("come", small, x -> x.come(1, 3));
        Twins.anew("skip", small, x -> x.skip(0));
        Twins.anew("skip the last one", small, x -> x.skip(2));
        Twins.anew("shift", small, x -> x.shift(2, 0));
        Twins.anew("shift in its place", small, x -> x.shift(1, 2));
        Twins.anew("undo", small, x -> x.undo());
        Twins.anew("restore", small, x -> x.restore());
        Twins.anew("teach", small, x -> x.teach(0, 1));
        Twins.anew("habit", small, x -> Check.habit(x, 0, "take by 3;put;"));
        Twins.anew("no habit", small, x -> Check.habit(x, 1, ""));
        Twins.anew("rule", small, x -> Check.rule(x, "put;take;start;"));
        Twins.anew("book", small, x -> Check.book(x, "0 card 1;2 warm 0;"));
        Twins.anew("no book", small, x -> Check.book(x, ""));
        Twins.anew("office", small, x -> Check.office(x, "cups 2 3;person;comes 0 1;"));
        Twins.anew("office alike, of one VISIT less", small, x -> Check.office(x, "machine 3;cups 1 1;card 1;person;person;comes 0 0;"));
        Twins.anew("a FAULT", small, x -> Check.rule(x, "pour;"));
        CardCups x = Check.made("person;comes 0 1;comes 0 2;comes 0 3;", "put if visit=1;");
        Check.due("TRUE three times", x.often(0), 1);
        x.skip(0);
        Check.due("TRUE twice", x.often(0), 1);
        Check.habit(x, 0, "");
        Check.due("TRUE never", x.often(0), 0);
        Check.due("from the first one on", x.since(), 0);
        x.skip(0);
        x.skip(0);
        Check.due("no VISITS", x.since(), -1);
    }

    /** An object is used for 512 calls: it answers to the last one. */
    private static void manyCalls() {
        Check.part("512 calls");
        CardCups x = new CardCups();
        x.feed(0x70657273, 0x6f6e3b63, 0x6f6d6573, 0x20302039, 0x3b000000);
        Check.due("office", x.office(17), 1);
        for (int i = 3; i <= 510; i++) {
            int round = i;
            switch (i % 4) {
                case 0: Check.due("come", x.come(0, round % 481), round % 481 > 9 ? 1 : 0); break;
                case 1: Check.due("TRUE, as none is in it", x.likely(0, 1), 0); break;
                case 2: Check.due("falls twice by 4", x.falling(4), ONE / 8 * 3); break;
                default: if (round > 3) Check.due("undo", x.undo(), 0); else Check.due("none", x.undo(), -1); break;
            }
        }
        Check.due("the 511th", x.told(8), 2);
        Check.due("the 512th", x.count(2), 1);
    }
}
