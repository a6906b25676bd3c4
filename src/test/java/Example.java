import java.util.NoSuchElementException;

/** The example of README.md: a small office, from its first text to a refused call. */
public final class Example {
    private Example() {}

    public static void main(String[] args) {
        CardCups cups = new CardCups();

        // two of four cups stand in the machine, one clean, one dirty; the card says clean; PERSON 0 comes twice
        String office = "machine 4; cups 1 1; card 1; person; person; comes 0 0; comes 1 10; comes 0 20;";
        feed(cups, office);
        show("VISITS", cups.office(office.length()));

        // PERSON 0 takes one if the card says clean, and puts a dirty one in; PERSON 1 looks, and starts what is dirty
        habit(cups, 0, "take if card = 1; put;");
        habit(cups, 1, "look; start if seen = 1; clean if warm = 1;");

        show("the card is TRUE behind VISIT 0 by so many PARTS", cups.likely(0, 1));
        show("and behind VISIT 1", cups.likely(1, 1));
        show("dirty ones behind VISIT 0, on the mean", cups.mean(0, 1, 0), cups.mean(0, 1, 1));
        show("the likeliest STATE behind VISIT 1", cups.likeliest(1));
        show("dirty ones drunk from by PERSON 0", cups.drunk(0, 0), cups.drunk(0, 1));
        show("what it costs", cups.cost(0), cups.cost(1));
        show("who keeps it going", cups.keeper());

        // as VISIT 2 begins, the machine was seen to be cold
        String book = "2 warm 0;";
        feed(cups, book);
        show("lines", cups.book(book.length()));
        show("how likely that is", cups.fits(0), cups.fits(1));
        show("what one ought to do then", cups.best(2));
        show("what that costs", cups.worth(2, cups.best(2), 0), cups.worth(2, cups.best(2), 1));

        show("one VISIT more, in MINUTE 15, is number", cups.come(1, 15));
        show("what it costs now", cups.cost(0), cups.cost(1));
        show("changes left when it is undone", cups.undo());

        show("clean ones at the end of the DAY by SEED 7", cups.day(7, 2, 0));

        String faulty = "take; put by 17;";
        feed(cups, faulty);
        show("no HABIT", cups.habit(0, faulty.length()));
        show("the place of its FAULT", cups.fault());
        try {
            cups.likely(3, 1);
        } catch (NoSuchElementException e) {
            show("so many calls named a VISIT or PERSON that there is none of", cups.status(0));
        }
    }

    private static void habit(CardCups cups, int person, String text) {
        feed(cups, text);
        show("STEPS of PERSON " + person, cups.habit(person, text.length()));
    }

    /** Twenty bytes a feed, four a number, the highest first; what is behind the text is filled up with blanks. */
    private static void feed(CardCups cups, String text) {
        for (int at = 0; at < text.length(); at += 20) {
            int[] numbers = new int[5];
            for (int i = 0; i < 20; i++) {
                int sign = at + i < text.length() ? text.charAt(at + i) : ' ';
                numbers[i / 4] = numbers[i / 4] << 8 | sign;
            }
            cups.feed(numbers[0], numbers[1], numbers[2], numbers[3], numbers[4]);
        }
    }

    private static void show(String what, long answer) {
        System.out.println(what + ": " + answer);
    }

    private static void show(String what, long above, long below) {
        System.out.println(what + ": " + above + "/" + below);
    }
}
