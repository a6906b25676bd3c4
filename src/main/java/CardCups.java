import java.util.NoSuchElementException;

/** A machine for cups, its card, and those who come to it: how likely is what behind each VISIT. */
public final class CardCups {
    public static final int NONE = -1;

    private static final long ONE = 1L << 40;
    private static final int OUT_OF = 16;
    private static final int MOST_BYTES = 600;
    private static final int MOST_SHORT_BYTES = 150;
    private static final int MOST_CUPS = 12;
    private static final int MOST_PEOPLE = 6;
    private static final int MOST_VISITS = 24;
    private static final int MOST_CHANGES = 20;
    private static final int MOST_IMAGES = 3;
    private static final int MOST_SEEDS = 40;
    private static final int LAST_MINUTE = 480;
    private static final int NEVER = 999;

    /** FAULTS, by their numbers. */
    private static final int UNFIT = 1;
    private static final int NO_SUCH_NUMBER = 2;
    private static final int TOO_MANY = 3;
    private static final int MACHINE_LATE = 4;

    /** What is told of an OFFICE, by its place in told(). */
    private static final int CUPS_HELD = 0;
    private static final int CLEAN_FIRST = 1;
    private static final int DIRTY_FIRST = 2;
    private static final int CARD_FIRST = 3;
    private static final int FALL_ODDS = 4;
    private static final int WARM_MINUTES = 5;
    private static final int SEE_ODDS = 6;
    private static final int PEOPLE = 7;

    /** What is dear, by its place in price(). */
    private static final int DIRTY_PRICE = 0;
    private static final int AGAIN_PRICE = 1;
    private static final int LOOK_PRICE = 2;
    private static final int OWN_PRICE = 3;
    private static final int WAIT_PRICE = 4;
    private static final int PRICES = 5;

    /** What may be so of a STATE, by its place in likely(). */
    private static final int ALL_CLEAN = 0;
    private static final int CARD_TRUE = 1;
    private static final int WARM = 2;
    private static final int SAYS_CLEAN = 3;
    private static final int EMPTIED = 4;
    private static final int FACTS = 6;

    /** The ways of one who comes, by their places in worth(). */
    private static final int WAY_TAKE = 0;
    private static final int WAY_OWN = 1;
    private static final int WAY_LOOK = 2;
    private static final int WAY_START = 3;
    private static final int WAYS = 4;

    /** How a reckoning may differ from the office as it is. */
    private static final int AS_IT_IS = 0;
    private static final int LEFT_OUT = 1;
    private static final int OTHER_FALL = 2;
    private static final int OTHER_SIGHT = 3;
    private static final int STARTED_BY = 4;
    private static final int BY_RULE = 5;
    private static final int SWAPPING = 6;

    private final Tape tape;
    private final World world;
    private final Office officeRead;
    private final Habit habitRead;
    private final Book bookRead;
    private final Diary[] images;
    private final Ledger ledger;
    private final Day someDay;
    private int imagesKept;
    private int faultPlace;
    private int notFound;
    private int notAllowed;

    public CardCups() {
        tape = new Tape();
        world = new World();
        officeRead = new Office();
        habitRead = new Habit();
        bookRead = new Book();
        images = new Diary[MOST_IMAGES];
        for (int i = 0; i < MOST_IMAGES; i++) {
            images[i] = new Diary();
        }
        ledger = new Ledger();
        someDay = new Day();
        imagesKept = 0;
        faultPlace = NONE;
        notFound = 0;
        notAllowed = 0;
    }

    // ---- texts ----

    public int feed(int a, int b, int c, int d, int e) {
        if (!tape.hasRoom(20)) {
            return NONE;
        }
        tape.put(a);
        tape.put(b);
        tape.put(c);
        tape.put(d);
        tape.put(e);
        return tape.length;
    }

    public int office(int n) throws IllegalArgumentException {
        needBytes(n, MOST_BYTES);
        tape.open(n);
        officeRead.read(tape);
        if (!closeTape()) {
            return faultAnswer();
        }
        world.begin(officeRead);
        imagesKept = 0;
        ledger.forget();
        return diary().total();
    }

    public int habit(int person, int n) throws NoSuchElementException, IllegalArgumentException {
        needPerson(person);
        needBytes(n, MOST_SHORT_BYTES);
        return readHabit(world.habitOf(person), n);
    }

    public int rule(int n) throws IllegalArgumentException {
        needBytes(n, MOST_SHORT_BYTES);
        return readHabit(world.rule, n);
    }

    public int book(int n) throws IllegalArgumentException {
        needBytes(n, MOST_SHORT_BYTES);
        tape.open(n);
        bookRead.read(tape);
        if (!closeTape()) {
            return faultAnswer();
        }
        world.book.copy(bookRead);
        ledger.forget();
        return bookRead.lines;
    }

    public int fault() {
        return faultPlace;
    }

    private int readHabit(Habit target, int n) {
        tape.open(n);
        habitRead.read(tape);
        if (!closeTape()) {
            return faultAnswer();
        }
        target.copy(habitRead);
        ledger.forget();
        return habitRead.steps;
    }

    /** The TAPE is empty behind every text, a faulty one too. */
    private boolean closeTape() {
        faultPlace = tape.faultAt;
        tape.length = 0;
        return tape.isFine();
    }

    private int faultAnswer() {
        return tape.faultKind - 10;
    }

    // ---- what is told ----

    public int told(int what) throws IllegalArgumentException {
        need(isWithin(what, 0, 9));
        if (what == 8) {
            return diary().total();
        }
        if (what == 9) {
            return world.book.lines;
        }
        return world.office.toldOf(what);
    }

    public int visit(int visit, int what) throws NoSuchElementException, IllegalArgumentException {
        needVisit(visit);
        need(isWithin(what, 0, 3));
        switch (what) {
            case 0: return diary().personOf(visit);
            case 1: return diary().minuteOf(visit);
            case 2: return diary().whichOfHis(visit);
            default: return diary().minutesSinceHis(visit);
        }
    }

    public int person(int person, int what) throws NoSuchElementException, IllegalArgumentException {
        needPerson(person);
        need(isWithin(what, 0, 2));
        switch (what) {
            case 0: return world.habitOf(person).steps;
            case 1: return diary().visitsOf(person);
            default: return diary().firstOf(person);
        }
    }

    public int price(int what) throws IllegalArgumentException {
        need(isWithin(what, 0, PRICES - 1));
        return world.office.priceOf(what);
    }

    // ---- how likely what is ----

    public int states(int visit) throws NoSuchElementException {
        needVisit(visit);
        return ledger.statesBehind(world, visit);
    }

    public long likely(int visit, int what) throws NoSuchElementException, IllegalArgumentException {
        needVisit(visit);
        need(isWithin(what, 0, FACTS - 1));
        return ledger.factBehind(world, visit, what);
    }

    public long state(int visit, int clean, int dirty, int card) throws NoSuchElementException, IllegalArgumentException {
        needVisit(visit);
        need(isWithin(clean, 0, MOST_CUPS) && isWithin(dirty, 0, MOST_CUPS) && isWithin(card, 0, 1));
        if (clean + dirty > MOST_CUPS) {
            return 0;
        }
        return ledger.partsBehind(world, visit, clean, dirty, card);
    }

    public int likeliest(int visit) throws NoSuchElementException {
        needVisit(visit);
        long most = -1;
        int answer = NONE;
        // in the order of the answer's number, so that the first of alike ones is the least
        for (int clean = 0; clean <= MOST_CUPS; clean++) {
            for (int rest = 0; rest < 2 * (MOST_CUPS - clean + 1); rest++) {
                long parts = ledger.partsBehind(world, visit, clean, rest / 2, rest % 2);
                if (parts > most) {
                    most = parts;
                    answer = 100 * clean + rest;
                }
            }
        }
        return answer;
    }

    public long mean(int visit, int what, int part) throws NoSuchElementException, IllegalArgumentException {
        needVisit(visit);
        need(isWithin(what, 0, 1) && isPart(part));
        long above = 0;
        for (int clean = 0; clean <= MOST_CUPS; clean++) {
            for (int dirty = 0; dirty <= MOST_CUPS - clean; dirty++) {
                long parts = ledger.partsBehind(world, visit, clean, dirty, 0) + ledger.partsBehind(world, visit, clean, dirty, 1);
                above += parts * (what == 0 ? clean : dirty);
            }
        }
        return inLeastTerms(above, ONE, part);
    }

    public long often(int part) throws IllegalArgumentException {
        need(isPart(part));
        int visits = diary().total();
        long above = 0;
        for (int v = 0; v < visits; v++) {
            above += ledger.factBehind(world, v, CARD_TRUE);
        }
        return inLeastTerms(above, visits * ONE, part);
    }

    public int since() {
        int visits = diary().total();
        for (int v = 0; v < visits; v++) {
            if (ledger.factBehind(world, v, CARD_TRUE) < ONE / 2) {
                return v;
            }
        }
        return NONE;
    }

    public long drunk(int person, int part) throws NoSuchElementException, IllegalArgumentException {
        needPerson(person);
        need(isPart(part));
        return inLeastTerms(ledger.drunkBy(world, person), ONE, part);
    }

    public long done(int what, int part) throws IllegalArgumentException {
        need(isWithin(what, 0, 1) && isPart(part));
        long above = what == 0 ? ledger.washedAgain(world) : ledger.looksTaken(world);
        return inLeastTerms(above, ONE, part);
    }

    public long cost(int part) throws IllegalArgumentException {
        need(isPart(part));
        return inLeastTerms(ledger.costBy(world, AS_IT_IS, 0), ONE, part);
    }

    // ---- GIVEN the BOOK ----

    public long fits(int part) throws IllegalArgumentException {
        need(isPart(part));
        return inLeastTerms(ledger.fitting(world), ONE, part);
    }

    public long given(int visit, int what, int part) throws NoSuchElementException, IllegalArgumentException {
        needVisit(visit);
        need(isWithin(what, 0, FACTS - 1) && isPart(part));
        return inLeastTerms(ledger.factGiven(world, visit, what), ledger.allGiven(world, visit), part);
    }

    public int best(int visit) throws NoSuchElementException {
        needVisit(visit);
        if (ledger.allGiven(world, visit) == 0) {
            return NONE;
        }
        int answer = 0;
        for (int way = 1; way < WAYS; way++) {
            if (ledger.wayGiven(world, visit, way) < ledger.wayGiven(world, visit, answer)) {
                answer = way;
            }
        }
        return answer;
    }

    public long worth(int visit, int way, int part) throws NoSuchElementException, IllegalArgumentException {
        needVisit(visit);
        need(isWithin(way, 0, WAYS - 1) && isPart(part));
        return inLeastTerms(ledger.wayGiven(world, visit, way), ledger.allGiven(world, visit), part);
    }

    public long gain(int visit, int part) throws NoSuchElementException, IllegalArgumentException {
        needVisit(visit);
        need(isPart(part));
        long blind = Math.min(ledger.wayGiven(world, visit, WAY_TAKE), ledger.wayGiven(world, visit, WAY_OWN));
        long less = Math.max(0, blind - ledger.wayGiven(world, visit, WAY_LOOK));
        return inLeastTerms(less, ledger.allGiven(world, visit), part);
    }

    // ---- what if ----

    public long without(int person, int what) throws NoSuchElementException, IllegalArgumentException {
        needPerson(person);
        need(isWithin(what, 0, 1));
        return ledger.endOrCostBy(world, LEFT_OUT, person, what);
    }

    public int keeper() {
        int people = people();
        int answer = NONE;
        for (int p = 0; p < people; p++) {
            if (answer == NONE || ledger.endBy(world, LEFT_OUT, p) < ledger.endBy(world, LEFT_OUT, answer)) {
                answer = p;
            }
        }
        return answer;
    }

    public int spoiler() {
        int people = people();
        int answer = NONE;
        for (int p = 0; p < people; p++) {
            if (answer == NONE || ledger.costBy(world, LEFT_OUT, p) < ledger.costBy(world, LEFT_OUT, answer)) {
                answer = p;
            }
        }
        return answer;
    }

    public long falling(int q) throws IllegalArgumentException {
        need(isWithin(q, 0, OUT_OF));
        return ledger.endBy(world, OTHER_FALL, q);
    }

    public long seeing(int k, int part) throws IllegalArgumentException {
        need(isWithin(k, 0, OUT_OF) && isPart(part));
        return inLeastTerms(ledger.costBy(world, OTHER_SIGHT, k), ONE, part);
    }

    public long filled(int k, int part) throws IllegalArgumentException {
        need(isWithin(k, 1, MOST_CUPS) && isPart(part));
        return inLeastTerms(ledger.costBy(world, STARTED_BY, k), ONE, part);
    }

    public int fill() {
        int held = world.office.toldOf(CUPS_HELD);
        int answer = 1;
        for (int k = 2; k <= held; k++) {
            if (ledger.costBy(world, STARTED_BY, k) < ledger.costBy(world, STARTED_BY, answer)) {
                answer = k;
            }
        }
        return answer;
    }

    public long ruled(int what) throws IllegalArgumentException {
        need(isWithin(what, 0, 1));
        return ledger.endOrCostBy(world, BY_RULE, 0, what);
    }

    public long swapped(int person, int other, int part) throws NoSuchElementException, IllegalArgumentException {
        needPerson(person);
        needPerson(other);
        need(person != other && isPart(part));
        return inLeastTerms(ledger.costBy(world, SWAPPING, pairOf(person, other)), ONE, part);
    }

    public int swap() {
        int people = people();
        long least = ledger.costBy(world, AS_IT_IS, 0);
        int answer = NONE;
        for (int p = 0; p < people; p++) {
            for (int other = p + 1; other < people; other++) {
                long cost = ledger.costBy(world, SWAPPING, pairOf(p, other));
                if (cost < least) {
                    least = cost;
                    answer = 10 * p + other;
                }
            }
        }
        return answer;
    }

    /** One pair has one place in the ledger, whichever of the two is named first. */
    private static int pairOf(int person, int other) {
        return Math.min(person, other) * MOST_PEOPLE + Math.max(person, other);
    }

    // ---- DAYS ----

    public int day(int seed, int visit, int what) throws NoSuchElementException, IllegalArgumentException {
        needVisit(visit);
        need(isWithin(what, 0, 6));
        someDay.pass(world, seed, visit + 1);
        return someDay.answer(what);
    }

    public int span(int seed, int many, int what) throws IllegalArgumentException {
        need(isWithin(many, 1, MOST_SEEDS) && isWithin(what, 0, 2));
        int visits = diary().total();
        int trueDays = 0;
        int allDrunk = 0;
        int mostDrunk = 0;
        for (int i = 0; i < many; i++) {
            someDay.pass(world, seed + i, visits);
            trueDays += someDay.cups.isTrue() ? 1 : 0;
            allDrunk += someDay.drunkFrom;
            mostDrunk = Math.max(mostDrunk, someDay.drunkFrom);
        }
        switch (what) {
            case 0: return trueDays;
            case 1: return allDrunk;
            default: return mostDrunk;
        }
    }

    // ---- changes ----

    public int come(int person, int minute) throws NoSuchElementException, IllegalArgumentException {
        needPerson(person);
        need(isWithin(minute, 0, LAST_MINUTE));
        if (diary().total() >= MOST_VISITS || !diary().turnPage()) {
            return NONE;
        }
        ledger.forget();
        return diary().insert(person, minute);
    }

    public int skip(int visit) throws NoSuchElementException {
        needVisit(visit);
        if (!diary().turnPage()) {
            return NONE;
        }
        ledger.forget();
        diary().remove(visit);
        return diary().total();
    }

    public int shift(int visit, int minute) throws NoSuchElementException, IllegalArgumentException {
        needVisit(visit);
        need(isWithin(minute, 0, LAST_MINUTE));
        if (!diary().turnPage()) {
            return NONE;
        }
        ledger.forget();
        int person = diary().personOf(visit);
        diary().remove(visit);
        return diary().insert(person, minute);
    }

    public int teach(int person, int other) throws NoSuchElementException {
        needPerson(person);
        needPerson(other);
        world.habitOf(person).copy(world.habitOf(other));
        ledger.forget();
        return world.habitOf(person).steps;
    }

    public int undo() {
        if (!diary().turnBack()) {
            return NONE;
        }
        ledger.forget();
        return diary().changes;
    }

    public int image() {
        if (imagesKept < 0 || imagesKept >= images.length || images[imagesKept] == null) {
            return NONE;
        }
        images[imagesKept].copy(diary());
        imagesKept++;
        return imagesKept;
    }

    public int restore() {
        int latest = imagesKept - 1;
        if (latest < 0 || latest >= images.length || images[latest] == null) {
            return NONE;
        }
        diary().copy(images[latest]);
        imagesKept = latest;
        ledger.forget();
        return latest;
    }

    public int status(int what) {
        switch (what) {
            case 0: return notFound;
            case 1: return notAllowed;
            default: return NONE;
        }
    }

    public int count(int what) {
        switch (what) {
            case 0: return imagesKept;
            case 1: return tape.length;
            case 2: return diary().changes;
            default: return NONE;
        }
    }

    // ---- what a call needs ----

    private void need(boolean allowed) throws IllegalArgumentException {
        if (!allowed) {
            notAllowed++;
            throw new IllegalArgumentException("no such argument");
        }
    }

    private void needFound(boolean found) throws NoSuchElementException {
        if (!found) {
            notFound++;
            throw new NoSuchElementException("no such PERSON or VISIT");
        }
    }

    private void needPerson(int person) throws NoSuchElementException {
        needFound(isWithin(person, 0, people() - 1));
    }

    private void needVisit(int visit) throws NoSuchElementException {
        needFound(isWithin(visit, 0, diary().total() - 1));
    }

    private void needBytes(int n, int most) throws IllegalArgumentException {
        need(isWithin(n, 0, Math.min(most, tape.length)));
    }

    private static boolean isWithin(int number, int low, int high) {
        return number >= low && number <= high;
    }

    private static boolean isPart(int part) {
        return part == 0 || part == 1;
    }

    private Diary diary() {
        return world.office.diary;
    }

    private int people() {
        return Math.min(MOST_PEOPLE, world.office.toldOf(PEOPLE));
    }

    private static long inLeastTerms(long above, long below, int part) {
        if (below <= 0) {
            return part == 0 ? 0 : 1;
        }
        long divisor = commonDivisor(above, below);
        if (divisor <= 0) {
            return part == 0 ? above : below;
        }
        return part == 0 ? above / divisor : below / divisor;
    }

    private static long commonDivisor(long one, long other) {
        long a = one;
        long b = other;
        // two longs need fewer than a hundred rounds
        for (int round = 0; round < 200 && b != 0; round++) {
            long rest = a % b;
            a = b;
            b = rest;
        }
        return a;
    }

    /** The bytes fed, and the reading of a text from them: its words, numbers and signs, and its first FAULT. */
    private static final class Tape {
        final byte[] bytes = new byte[MOST_BYTES];
        int length;
        int faultKind;
        int faultAt;
        private int end;
        private int at;

        Tape() {
            faultAt = NONE;
        }

        boolean hasRoom(int more) {
            return length <= bytes.length - more;
        }

        void put(int number) {
            for (int shift = 24; shift >= 0; shift -= 8) {
                if (length >= 0 && length < bytes.length) {
                    bytes[length] = (byte) (number >>> shift);
                    length++;
                }
            }
        }

        void open(int n) {
            end = Math.max(0, Math.min(n, bytes.length));
            faultKind = 0;
            faultAt = NONE;
            goTo(0);
        }

        boolean isFine() {
            return faultKind == 0;
        }

        /** Only the first FAULT is kept: a text is read from the left, and of one place the least is told first. */
        void refuse(int kind, int place) {
            if (faultKind == 0) {
                faultKind = kind;
                faultAt = place;
            }
        }

        /** Where the next word, number or sign stands; the text's end, if none does. */
        int nextPlace() {
            return at;
        }

        boolean goesOn() {
            return faultKind == 0 && at < end;
        }

        boolean takeSign(char sign) {
            if (!goesOn() || byteAt(at) != sign) {
                return false;
            }
            goTo(at + 1);
            return true;
        }

        void needSign(char sign) {
            if (goesOn() && byteAt(at) == sign) {
                goTo(at + 1);
            } else {
                refuse(UNFIT, at);
            }
        }

        /** Goes on from there, past the blanks. */
        private void goTo(int place) {
            at = place;
            while (at >= 0 && at < end && at < bytes.length && bytes[at] == ' ') {
                at++;
            }
        }

        /** The place of the next word in the list, each word of which has a blank behind it; NONE takes nothing. */
        int takeWordOf(String list) {
            if (!goesOn()) {
                return NONE;
            }
            int stop = at;
            while (stop < end && isLetter(byteAt(stop))) {
                stop++;
            }
            int start = 0;
            int answer = 0;
            for (int i = 0; i < list.length(); i++) {
                if (list.charAt(i) == ' ') {
                    if (i - start == stop - at && matches(list, start, i)) {
                        goTo(stop);
                        return answer;
                    }
                    start = i + 1;
                    answer++;
                }
            }
            return NONE;
        }

        private boolean matches(String list, int start, int stop) {
            for (int i = start; i < stop; i++) {
                int place = at + i - start;
                if (i < 0 || i >= list.length() || place < 0 || place >= bytes.length || list.charAt(i) != bytes[place]) {
                    return false;
                }
            }
            return true;
        }

        int takeNumber(int low, int high) {
            int place = at;
            int number = 0;
            int stop = place;
            while (stop < end && isDigit(byteAt(stop))) {
                // beyond every limit it need not grow, and must not wrap
                number = Math.min(100000, number * 10 + byteAt(stop) - '0');
                stop++;
            }
            if (stop == place) {
                refuse(UNFIT, place);
            } else if (number < low || number > high) {
                refuse(NO_SUCH_NUMBER, place);
            }
            if (faultKind != 0) {
                return low;
            }
            goTo(stop);
            return number;
        }

        private int byteAt(int place) {
            return place >= 0 && place < bytes.length ? bytes[place] : 0;
        }

        private static boolean isLetter(int sign) {
            return sign >= 'a' && sign <= 'z';
        }

        private static boolean isDigit(int sign) {
            return sign >= '0' && sign <= '9';
        }
    }

    /** What an OFFICE's text tells, with the diary of its VISITS. */
    private static final class Office {
        private static final String CLAUSES = "machine cups card fall warm see cost person comes ";
        private static final int MOST_CLAUSES = 60;
        private static final int MACHINE = 0;
        private static final int CUPS = 1;
        private static final int CARD = 2;
        private static final int FALL = 3;
        private static final int WARM_FOR = 4;
        private static final int SEE = 5;
        private static final int COST = 6;
        private static final int PERSON = 7;
        private static final int COMES = 8;

        final Diary diary = new Diary();
        private final int[] tolds = new int[PEOPLE + 1];
        private final int[] prices = new int[PRICES];

        Office() {
            setOut();
        }

        private void setOut() {
            diary.clear();
            tell(CUPS_HELD, 8);
            tell(CLEAN_FIRST, 0);
            tell(DIRTY_FIRST, 0);
            tell(CARD_FIRST, 0);
            tell(FALL_ODDS, 0);
            tell(WARM_MINUTES, 30);
            tell(SEE_ODDS, 12);
            tell(PEOPLE, 0);
            priceAt(DIRTY_PRICE, 9);
            priceAt(AGAIN_PRICE, 1);
            priceAt(LOOK_PRICE, 1);
            priceAt(OWN_PRICE, 3);
            priceAt(WAIT_PRICE, 2);
        }

        private void tell(int what, int number) {
            if (what >= 0 && what < tolds.length) {
                tolds[what] = number;
            }
        }

        private void priceAt(int what, int number) {
            if (what >= 0 && what < prices.length) {
                prices[what] = number;
            }
        }

        int toldOf(int what) {
            return what >= 0 && what < tolds.length ? tolds[what] : NONE;
        }

        int priceOf(int what) {
            return what >= 0 && what < prices.length ? prices[what] : NONE;
        }

        void copy(Office other) {
            for (int i = 0; i < tolds.length; i++) {
                tolds[i] = other.toldOf(i);
            }
            for (int i = 0; i < prices.length; i++) {
                prices[i] = other.priceOf(i);
            }
            diary.copy(other.diary);
        }

        void read(Tape tape) {
            setOut();
            for (int ahead = 0; ahead <= MOST_CLAUSES && tape.goesOn(); ahead++) {
                readClause(tape, ahead);
            }
        }

        private void readClause(Tape tape, int ahead) {
            int place = tape.nextPlace();
            int kind = tape.takeWordOf(CLAUSES);
            if (kind == NONE) {
                tape.refuse(UNFIT, place);
            } else if (isTooMany(kind, ahead)) {
                tape.refuse(TOO_MANY, place);
            } else if (kind == MACHINE && ahead > 0) {
                tape.refuse(MACHINE_LATE, place);
            }
            if (tape.isFine()) {
                readNumbers(kind, tape);
                tape.needSign(';');
            }
        }

        private boolean isTooMany(int kind, int ahead) {
            return ahead >= MOST_CLAUSES
                || (kind == PERSON && toldOf(PEOPLE) >= MOST_PEOPLE)
                || (kind == COMES && diary.total() >= MOST_VISITS);
        }

        private void readNumbers(int kind, Tape tape) {
            switch (kind) {
                case MACHINE: tell(CUPS_HELD, tape.takeNumber(1, MOST_CUPS)); break;
                case CUPS: readCups(tape); break;
                case CARD: tell(CARD_FIRST, tape.takeNumber(0, 1)); break;
                case FALL: tell(FALL_ODDS, tape.takeNumber(0, OUT_OF)); break;
                case WARM_FOR: tell(WARM_MINUTES, tape.takeNumber(1, 99)); break;
                case SEE: tell(SEE_ODDS, tape.takeNumber(0, OUT_OF)); break;
                case COST: readPrices(tape); break;
                case PERSON: tell(PEOPLE, toldOf(PEOPLE) + 1); break;
                default: readVisit(tape); break;
            }
        }

        private void readCups(Tape tape) {
            int held = toldOf(CUPS_HELD);
            int clean = tape.takeNumber(0, held);
            tell(CLEAN_FIRST, clean);
            tell(DIRTY_FIRST, tape.takeNumber(0, held - clean));
        }

        private void readPrices(Tape tape) {
            for (int i = 0; i < PRICES; i++) {
                priceAt(i, tape.takeNumber(0, 99));
            }
        }

        private void readVisit(Tape tape) {
            int person = tape.takeNumber(0, toldOf(PEOPLE) - 1);
            int minute = tape.takeNumber(0, LAST_MINUTE);
            diary.insert(person, minute);
        }
    }

    /** The VISITS in their order; each change turns to a new page, so that undoing turns back. */
    private static final class Diary {
        private static final int PAGES = MOST_CHANGES + 1;
        int changes;
        private final int[] totals = new int[PAGES];
        private final int[][] people = new int[PAGES][MOST_VISITS];
        private final int[][] minutes = new int[PAGES][MOST_VISITS];

        Diary() {
            changes = 0;
        }

        void clear() {
            changes = 0;
            totals[0] = 0;
        }

        /** The page in force. */
        private int page() {
            return changes >= 0 && changes < PAGES ? changes : 0;
        }

        int total() {
            return changes >= 0 && changes < PAGES ? totals[changes] : 0;
        }

        int personOf(int visit) {
            return visit >= 0 && visit < MOST_VISITS && visit < total() ? people[page()][visit] : NONE;
        }

        int minuteOf(int visit) {
            return visit >= 0 && visit < MOST_VISITS && visit < total() ? minutes[page()][visit] : NONE;
        }

        int whichOfHis(int visit) {
            int person = personOf(visit);
            int which = 0;
            for (int v = 0; v <= visit && v < MOST_VISITS; v++) {
                which += personOf(v) == person ? 1 : 0;
            }
            return which;
        }

        int minutesSinceHis(int visit) {
            int person = personOf(visit);
            for (int v = Math.min(visit, MOST_VISITS) - 1; v >= 0; v--) {
                if (personOf(v) == person) {
                    return minuteOf(visit) - minuteOf(v);
                }
            }
            return NEVER;
        }

        int visitsOf(int person) {
            int many = 0;
            for (int v = 0; v < total(); v++) {
                many += personOf(v) == person ? 1 : 0;
            }
            return many;
        }

        int firstOf(int person) {
            for (int v = 0; v < total(); v++) {
                if (personOf(v) == person) {
                    return v;
                }
            }
            return NONE;
        }

        /** Puts a VISIT behind those of its MINUTE and tells its number. */
        int insert(int person, int minute) {
            int visits = total();
            if (visits < 0 || visits >= MOST_VISITS) {
                return NONE;
            }
            int[] who = people[page()];
            int[] when = minutes[page()];
            int place = visits;
            while (place > 0 && place < MOST_VISITS && when[place - 1] > minute) {
                when[place] = when[place - 1];
                who[place] = who[place - 1];
                place--;
            }
            when[place] = minute;
            who[place] = person;
            totals[page()] = visits + 1;
            return place;
        }

        void remove(int visit) {
            int visits = total();
            if (visit < 0 || visit >= visits || visits > MOST_VISITS) {
                return;
            }
            int[] who = people[page()];
            int[] when = minutes[page()];
            for (int v = visit; v + 1 < visits; v++) {
                who[v] = who[v + 1];
                when[v] = when[v + 1];
            }
            totals[page()] = visits - 1;
        }

        /** A new page like the one in force; false if there is none left. */
        boolean turnPage() {
            if (changes < 0 || changes >= MOST_CHANGES) {
                return false;
            }
            copyPage(changes, this, changes + 1);
            changes++;
            return true;
        }

        boolean turnBack() {
            if (changes <= 0) {
                return false;
            }
            changes--;
            return true;
        }

        void copy(Diary other) {
            changes = other.changes;
            for (int i = 0; i <= changes && i < PAGES; i++) {
                copyPage(i, other, i);
            }
        }

        private void copyPage(int from, Diary source, int to) {
            if (from < 0 || from >= PAGES || to < 0 || to >= PAGES) {
                return;
            }
            totals[to] = source.totals[from];
            for (int v = 0; v < MOST_VISITS; v++) {
                people[to][v] = source.people[from][v];
                minutes[to][v] = source.minutes[from][v];
            }
        }
    }

    /** The STEPS of a HABIT or of the RULE; each C stands as orders for a stack of numbers. */
    private static final class Habit {
        private static final String ACTS = "put take look start empty clean dirty turn ";
        static final int PUT = 0;
        static final int TAKE = 1;
        static final int LOOK = 2;
        static final int START = 3;
        static final int EMPTY = 4;
        static final int CLEAN = 5;
        static final int DIRTY = 6;
        private static final int MOST_STEPS = 8;
        private static final int MOST_OPEN = 6;

        private static final int NUMBER = 0;
        private static final int WORD = 1;
        private static final int PLUS = 2;
        private static final int MINUS = 3;
        private static final int TIMES = 4;
        private static final int LESS = 5;
        private static final int MORE = 6;
        private static final int ALIKE = 7;
        private static final int NOT = 8;
        private static final int AND = 9;
        private static final int OR = 10;
        private static final int ARGUMENT = 1000;

        int steps;
        private final int[] acts = new int[MOST_STEPS];
        private final int[] odds = new int[MOST_STEPS];
        private final int[] starts = new int[MOST_STEPS];
        private final int[] ends = new int[MOST_STEPS];
        // each order comes of at least one byte of the text, so that they always have room
        private final int[] orders = new int[MOST_SHORT_BYTES];
        private int ordered;
        private final int[] stack = new int[MOST_SHORT_BYTES];
        private int top;

        Habit() {
            steps = 0;
        }

        void clear() {
            steps = 0;
            ordered = 0;
        }

        void copy(Habit other) {
            steps = other.steps;
            ordered = other.ordered;
            for (int i = 0; i < MOST_STEPS; i++) {
                acts[i] = other.acts[i];
                odds[i] = other.odds[i];
                starts[i] = other.starts[i];
                ends[i] = other.ends[i];
            }
            for (int i = 0; i < ordered && i < MOST_SHORT_BYTES; i++) {
                orders[i] = other.orders[i];
            }
        }

        int actOf(int step) {
            return step >= 0 && step < MOST_STEPS ? acts[step] : NONE;
        }

        /** Of 16; 0 for a STEP without "by". */
        int oddsOf(int step) {
            return step >= 0 && step < MOST_STEPS ? odds[step] : 0;
        }

        boolean hasCondition(int step) {
            return step >= 0 && step < MOST_STEPS && starts[step] < ends[step];
        }

        // ---- reading ----

        void read(Tape tape) {
            clear();
            for (int ahead = 0; ahead <= MOST_STEPS && tape.goesOn(); ahead++) {
                readStep(tape);
            }
        }

        private void readStep(Tape tape) {
            int place = tape.nextPlace();
            int step = steps;
            int act = tape.takeWordOf(ACTS);
            if (act == NONE) {
                tape.refuse(UNFIT, place);
                return;
            }
            if (step < 0 || step >= MOST_STEPS) {
                tape.refuse(TOO_MANY, place);
                return;
            }
            acts[step] = act;
            odds[step] = tape.takeWordOf("by ") == NONE ? 0 : tape.takeNumber(1, OUT_OF);
            starts[step] = ordered;
            if (tape.takeWordOf("if ") != NONE) {
                readEither(tape, 0);
            }
            ends[step] = ordered;
            tape.needSign(';');
            steps = step + 1;
        }

        private void readEither(Tape tape, int open) {
            readBoth(tape, open);
            for (int i = 0; i < MOST_SHORT_BYTES && tape.takeWordOf("or ") != NONE; i++) {
                readBoth(tape, open);
                order(OR, 0);
            }
        }

        private void readBoth(Tape tape, int open) {
            readClaim(tape, open);
            for (int i = 0; i < MOST_SHORT_BYTES && tape.takeWordOf("and ") != NONE; i++) {
                readClaim(tape, open);
                order(AND, 0);
            }
        }

        private void readClaim(Tape tape, int open) {
            int place = tape.nextPlace();
            if (tape.takeWordOf("not ") != NONE) {
                if (mayOpen(tape, open, place)) {
                    readClaim(tape, open + 1);
                    order(NOT, 0);
                }
            } else if (tape.takeSign('[')) {
                if (mayOpen(tape, open, place)) {
                    readEither(tape, open + 1);
                    tape.needSign(']');
                }
            } else {
                readSum(tape, open);
                int relation = takeRelation(tape);
                readSum(tape, open);
                order(relation, 0);
            }
        }

        private static int takeRelation(Tape tape) {
            if (tape.takeSign('<')) {
                return LESS;
            }
            if (tape.takeSign('>')) {
                return MORE;
            }
            tape.needSign('=');
            return ALIKE;
        }

        private void readSum(Tape tape, int open) {
            readProduct(tape, open);
            for (int i = 0; i < MOST_SHORT_BYTES; i++) {
                int operation = tape.takeSign('+') ? PLUS : tape.takeSign('-') ? MINUS : NONE;
                if (operation == NONE) {
                    return;
                }
                readProduct(tape, open);
                order(operation, 0);
            }
        }

        private void readProduct(Tape tape, int open) {
            readUnit(tape, open);
            for (int i = 0; i < MOST_SHORT_BYTES && tape.takeSign('*'); i++) {
                readUnit(tape, open);
                order(TIMES, 0);
            }
        }

        private void readUnit(Tape tape, int open) {
            int place = tape.nextPlace();
            if (tape.takeSign('(')) {
                if (mayOpen(tape, open, place)) {
                    readSum(tape, open + 1);
                    tape.needSign(')');
                }
                return;
            }
            int word = tape.takeWordOf(Cups.WORDS);
            if (word != NONE) {
                order(WORD, word);
            } else {
                order(NUMBER, tape.takeNumber(0, 999));
            }
        }

        private static boolean mayOpen(Tape tape, int open, int place) {
            if (open >= MOST_OPEN) {
                tape.refuse(TOO_MANY, place);
            }
            return tape.isFine();
        }

        private void order(int kind, int argument) {
            if (ordered >= 0 && ordered < orders.length) {
                orders[ordered] = kind * ARGUMENT + argument;
                ordered++;
            }
        }

        // ---- asking ----

        /** Whether the STEP's C is so, by what the words are worth. */
        boolean isSo(int step, int[] worths) {
            if (!hasCondition(step)) {
                return true;
            }
            top = 0;
            int end = Math.min(ends[step], orders.length);
            for (int i = Math.max(0, starts[step]); i < end; i++) {
                int kind = orders[i] / ARGUMENT;
                int argument = orders[i] % ARGUMENT;
                if (kind == NUMBER) {
                    push(argument);
                } else if (kind == WORD) {
                    push(argument >= 0 && argument < worths.length ? worths[argument] : 0);
                } else if (kind == NOT) {
                    push(pop() == 0 ? 1 : 0);
                } else {
                    int right = pop();
                    push(joined(kind, pop(), right));
                }
            }
            return pop() != 0;
        }

        private static int joined(int kind, int left, int right) {
            switch (kind) {
                case PLUS: return left + right;
                case MINUS: return left - right;
                case TIMES: return left * right;
                case LESS: return left < right ? 1 : 0;
                case MORE: return left > right ? 1 : 0;
                case ALIKE: return left == right ? 1 : 0;
                case AND: return left & right;
                default: return left | right;
            }
        }

        private void push(int number) {
            if (top >= 0 && top < stack.length) {
                stack[top] = number;
                top++;
            }
        }

        private int pop() {
            if (top <= 0 || top > stack.length) {
                return 0;
            }
            top--;
            return stack[top];
        }
    }

    /** The lines of the BOOK. */
    private static final class Book {
        private static final String KINDS = "card warm in ";
        private static final int CARD = 0;
        private static final int WARM_OR_NOT = 1;
        private static final int MANY = 2;
        private static final int MOST_LINES = 10;

        int lines;
        private final int[] visits = new int[MOST_LINES];
        private final int[] kinds = new int[MOST_LINES];
        private final int[] values = new int[MOST_LINES];

        Book() {
            lines = 0;
        }

        void clear() {
            lines = 0;
        }

        void copy(Book other) {
            lines = other.lines;
            for (int i = 0; i < MOST_LINES; i++) {
                visits[i] = other.visits[i];
                kinds[i] = other.kinds[i];
                values[i] = other.values[i];
            }
        }

        void read(Tape tape) {
            clear();
            for (int ahead = 0; ahead <= MOST_LINES && tape.goesOn(); ahead++) {
                readLine(tape);
            }
        }

        private void readLine(Tape tape) {
            int place = tape.nextPlace();
            int line = lines;
            int visit = tape.takeNumber(0, MOST_VISITS - 1);
            if (line < 0 || line >= MOST_LINES) {
                tape.refuse(TOO_MANY, place);
                return;
            }
            int wordPlace = tape.nextPlace();
            int kind = tape.takeWordOf(KINDS);
            if (kind == NONE) {
                tape.refuse(UNFIT, wordPlace);
                return;
            }
            visits[line] = visit;
            kinds[line] = kind;
            values[line] = tape.takeNumber(0, kind == MANY ? MOST_CUPS : 1);
            tape.needSign(';');
            lines = line + 1;
        }

        boolean tellsOf(int visit) {
            for (int i = 0; i < lines && i < MOST_LINES; i++) {
                if (visits[i] == visit) {
                    return true;
                }
            }
            return false;
        }

        /** Whether its lines of the VISIT are so of the cups as it begins. */
        boolean isFitting(int visit, Cups cups) {
            for (int i = 0; i < lines && i < MOST_LINES; i++) {
                if (visits[i] == visit && values[i] != valueOf(kinds[i], cups)) {
                    return false;
                }
            }
            return true;
        }

        private static int valueOf(int kind, Cups cups) {
            switch (kind) {
                case CARD: return cups.card;
                case WARM_OR_NOT: return cups.warmth();
                default: return cups.clean + cups.dirty;
            }
        }
    }

    /** All that texts told and changes made of it. */
    private static final class World {
        final Office office = new Office();
        private final Habit[] habits = new Habit[MOST_PEOPLE];
        final Habit rule = new Habit();
        final Book book = new Book();

        World() {
            for (int i = 0; i < MOST_PEOPLE; i++) {
                habits[i] = new Habit();
            }
        }

        /** A new OFFICE: nothing of the one before it goes on. */
        void begin(Office told) {
            office.copy(told);
            for (int i = 0; i < MOST_PEOPLE; i++) {
                habitOf(i).clear();
            }
            rule.clear();
            book.clear();
        }

        /** The RULE stands in where there is no such PERSON; no call comes so far. */
        Habit habitOf(int person) {
            boolean known = person >= 0 && person < habits.length && habits[person] != null;
            return known ? habits[person] : rule;
        }
    }

    /** One STATE in hand, and what is known in the VISIT that it is in. */
    private static final class Cups {
        static final String WORDS = "card warm in room minute seen last visit ";

        int clean;
        int dirty;
        int card;
        int seen;
        int started;
        int visit;
        private int held;
        private int minute;
        private int last;
        private int which;
        private final int[] worths = new int[8];
        /** By the VISIT in which it was started, and 1; that none is at 0 and never warm. */
        private final int[] warmBy = new int[MOST_VISITS + 1];

        Cups() {
            started = NONE;
        }

        /** As told, ahead of all VISITS. */
        void setOut(Office office) {
            clean = office.toldOf(CLEAN_FIRST);
            dirty = office.toldOf(DIRTY_FIRST);
            card = office.toldOf(CARD_FIRST);
            held = office.toldOf(CUPS_HELD);
            seen = 0;
            started = NONE;
        }

        void enter(Office office, int coming) {
            Diary diary = office.diary;
            visit = coming;
            held = office.toldOf(CUPS_HELD);
            minute = diary.minuteOf(visit);
            last = diary.minutesSinceHis(visit);
            which = diary.whichOfHis(visit);
            for (int v = 0; v <= visit && v < MOST_VISITS; v++) {
                warmBy[v + 1] = minute - diary.minuteOf(v) < office.toldOf(WARM_MINUTES) ? 1 : 0;
            }
        }

        int warmth() {
            return started >= 0 && started < MOST_VISITS ? warmBy[started + 1] : 0;
        }

        boolean hasRoom() {
            return clean + dirty < held;
        }

        boolean isTrue() {
            return (card == 1) == (dirty == 0);
        }

        /** What may be so of it, as likely() numbers that. */
        boolean isSo(int what) {
            switch (what) {
                case ALL_CLEAN: return dirty == 0;
                case CARD_TRUE: return isTrue();
                case WARM: return warmth() == 1;
                case SAYS_CLEAN: return card == 1;
                case EMPTIED: return clean + dirty == 0;
                default: return clean + dirty == held;
            }
        }

        /** What the words of a C are worth, in the order of WORDS. */
        int[] wordWorths() {
            worths[0] = card;
            worths[1] = warmth();
            worths[2] = clean + dirty;
            worths[3] = held - clean - dirty;
            worths[4] = minute;
            worths[5] = seen;
            worths[6] = last;
            worths[7] = which;
            return worths;
        }
    }

    /** The PARTS of all STATES by their numbers, with a list of the STATES that have any. */
    private static final class Cloud {
        static final int PAIRS = (MOST_CUPS + 1) * (MOST_CUPS + 2) / 2;
        static final int STATES = (MOST_VISITS + 1) * 4 * PAIRS;

        int size;
        private final int[] list = new int[STATES];
        private final long[] parts = new long[STATES];

        Cloud() {
            size = 0;
        }

        /** The number of a pair of clean and dirty ones, MOST_CUPS together at most. */
        static int pairOf(int clean, int dirty) {
            int all = clean + dirty;
            return all * (all + 1) / 2 + dirty;
        }

        static int numberOf(Cups cups) {
            // written out once more, since pairOf() would be one call deeper than calls may go
            int all = cups.clean + cups.dirty;
            int pair = all * (all + 1) / 2 + cups.dirty;
            return (((cups.started + 1) * 2 + cups.seen) * 2 + cups.card) * PAIRS + pair;
        }

        int stateAt(int place) {
            return place >= 0 && place < size && place < STATES ? list[place] : 0;
        }

        long partsAt(int place) {
            int state = stateAt(place);
            return state >= 0 && state < STATES ? parts[state] : 0;
        }

        void add(int state, long more) {
            if (more <= 0 || state < 0 || state >= STATES) {
                return;
            }
            if (parts[state] == 0 && size >= 0 && size < STATES) {
                list[size] = state;
                size++;
            }
            parts[state] += more;
        }

        void clear() {
            for (int i = 0; i < size && i < STATES; i++) {
                int state = list[i];
                if (state >= 0 && state < STATES) {
                    parts[state] = 0;
                }
            }
            size = 0;
        }
    }

    /** The PARTS on their way through the VISITS, and what is counted of them. */
    private static final class Odds {
        private static final int MEMOS = 2 * 2 * 2 * (MOST_CUPS + 1);

        private final int[] cleanOf = new int[Cloud.PAIRS];
        private final int[] dirtyOf = new int[Cloud.PAIRS];
        private final Cups hand = new Cups();
        private final int[] memo = new int[MEMOS];
        private final long[] drunkBy = new long[MOST_PEOPLE];
        private final Habit[] doing = new Habit[MOST_PEOPLE];
        long washedAgain;
        long looks;
        private Cloud now = new Cloud();
        private Cloud next = new Cloud();
        private int fallOdds;
        private int seeOdds;
        private int starter;
        private int leftOut;

        Odds() {
            for (int all = 0; all <= MOST_CUPS; all++) {
                for (int dirty = 0; dirty <= all; dirty++) {
                    int pair = Cloud.pairOf(all - dirty, dirty);
                    if (pair >= 0 && pair < Cloud.PAIRS) {
                        cleanOf[pair] = all - dirty;
                        dirtyOf[pair] = dirty;
                    }
                }
            }
        }

        /** How this reckoning differs from the world as it is. */
        void plan(World world, int change, int detail) {
            fallOdds = change == OTHER_FALL ? detail : world.office.toldOf(FALL_ODDS);
            seeOdds = change == OTHER_SIGHT ? detail : world.office.toldOf(SEE_ODDS);
            starter = change == STARTED_BY ? detail : NONE;
            leftOut = change == LEFT_OUT ? detail : NONE;
            for (int p = 0; p < MOST_PEOPLE; p++) {
                doing[p] = change == BY_RULE ? world.rule : world.habitOf(p);
            }
            int one = detail / MOST_PEOPLE;
            int other = detail % MOST_PEOPLE;
            if (change == SWAPPING && one >= 0 && one < MOST_PEOPLE && other >= 0 && other < MOST_PEOPLE) {
                doing[one] = world.habitOf(other);
                doing[other] = world.habitOf(one);
            }
        }

        void setOut(Office office) {
            washedAgain = 0;
            looks = 0;
            for (int p = 0; p < MOST_PEOPLE; p++) {
                drunkBy[p] = 0;
            }
            now.clear();
            hand.setOut(office);
            now.add(Cloud.numberOf(hand), ONE);
        }

        boolean isLeftOut(Office office, int visit) {
            return leftOut != NONE && office.diary.personOf(visit) == leftOut;
        }

        /** A VISIT begins: the card falls. */
        void enter(Office office, int visit) {
            hand.enter(office, visit);
            if (fallOdds <= 0) {
                return;
            }
            for (int i = 0; i < now.size; i++) {
                long parts = load(i);
                long falling = parts * fallOdds / OUT_OF;
                next.add(now.stateAt(i), parts - falling);
                hand.card = 1 - hand.card;
                next.add(Cloud.numberOf(hand), falling);
            }
            goOn();
        }

        /** Only STATES go on of which the BOOK's lines are so. */
        void keepFitting(Book book, int visit) {
            if (!book.tellsOf(visit)) {
                return;
            }
            for (int i = 0; i < now.size; i++) {
                long parts = load(i);
                if (book.isFitting(visit, hand)) {
                    next.add(now.stateAt(i), parts);
                }
            }
            goOn();
        }

        /** The PERSON of the VISIT does his STEPS, and what is due behind them is done. */
        void act(int person) {
            if (person < 0 || person >= MOST_PEOPLE || doing[person] == null) {
                return;
            }
            Habit habit = doing[person];
            boolean looked = false;
            for (int step = 0; step < habit.steps; step++) {
                doStep(habit, step, person);
                looked = looked || habit.actOf(step) == Habit.LOOK;
            }
            if (looked) {
                forgetSeen();
            }
            if (starter != NONE) {
                startFull();
            }
        }

        private void doStep(Habit habit, int step, int person) {
            boolean asks = habit.hasCondition(step);
            int odds = habit.oddsOf(step) == 0 ? OUT_OF : habit.oddsOf(step);
            if (asks) {
                clearMemo();
            }
            for (int i = 0; i < now.size; i++) {
                long parts = load(i);
                long acting = !asks || isSo(habit, step) ? parts * odds / OUT_OF : 0;
                next.add(now.stateAt(i), parts - acting);
                if (acting > 0) {
                    doAct(habit.actOf(step), person, acting);
                }
            }
            goOn();
        }

        private void clearMemo() {
            for (int i = 0; i < MEMOS; i++) {
                memo[i] = 0;
            }
        }

        /** In one VISIT a C hangs on four things of a STATE alone, so that it is asked once for all alike. */
        private boolean isSo(Habit habit, int step) {
            int key = ((hand.clean + hand.dirty) * 2 + hand.card) * 4 + hand.warmth() * 2 + hand.seen;
            if (key < 0 || key >= MEMOS) {
                return false;
            }
            if (memo[key] == 0) {
                memo[key] = habit.isSo(step, hand.wordWorths()) ? 1 : 2;
            }
            return memo[key] == 1;
        }

        private void doAct(int act, int person, long parts) {
            switch (act) {
                case Habit.PUT: hand.dirty += hand.hasRoom() ? 1 : 0; break;
                case Habit.TAKE: drink(person, parts); return;
                case Habit.LOOK: lookInside(parts); return;
                case Habit.START: start(parts); break;
                case Habit.EMPTY: hand.clean = 0; hand.dirty = 0; break;
                case Habit.CLEAN: hand.card = 1; break;
                case Habit.DIRTY: hand.card = 0; break;
                default: hand.card = 1 - hand.card; break;
            }
            next.add(Cloud.numberOf(hand), parts);
        }

        private void drink(int person, long parts) {
            int all = hand.clean + hand.dirty;
            if (all <= 0) {
                next.add(Cloud.numberOf(hand), parts);
                return;
            }
            long dirtyParts = parts * hand.dirty / all;
            if (person >= 0 && person < MOST_PEOPLE) {
                drunkBy[person] += dirtyParts;
            }
            if (dirtyParts > 0) {
                hand.dirty--;
                next.add(Cloud.numberOf(hand), dirtyParts);
                hand.dirty++;
            }
            if (parts > dirtyParts) {
                hand.clean--;
                next.add(Cloud.numberOf(hand), parts - dirtyParts);
            }
        }

        private void lookInside(long parts) {
            looks += parts;
            long seeing = hand.dirty > 0 ? parts * seeOdds / OUT_OF : 0;
            next.add(Cloud.numberOf(hand), parts - seeing);
            hand.seen = 1;
            next.add(Cloud.numberOf(hand), seeing);
        }

        /** With nothing in it, it is not started. */
        private void start(long parts) {
            if (hand.clean + hand.dirty > 0) {
                washedAgain += parts * hand.clean;
                hand.clean += hand.dirty;
                hand.dirty = 0;
                hand.started = hand.visit;
            }
        }

        private void forgetSeen() {
            for (int i = 0; i < now.size; i++) {
                long parts = load(i);
                hand.seen = 0;
                next.add(Cloud.numberOf(hand), parts);
            }
            goOn();
        }

        private void startFull() {
            for (int i = 0; i < now.size; i++) {
                long parts = load(i);
                if (hand.clean + hand.dirty >= starter) {
                    start(parts);
                }
                next.add(Cloud.numberOf(hand), parts);
            }
            goOn();
        }

        private void goOn() {
            now.clear();
            Cloud empty = now;
            now = next;
            next = empty;
        }

        /** Takes a STATE of the list in hand and tells its PARTS. */
        private long load(int place) {
            int state = now.stateAt(place);
            int pair = state % Cloud.PAIRS;
            int rest = state / Cloud.PAIRS;
            if (pair >= 0 && pair < Cloud.PAIRS) {
                hand.clean = cleanOf[pair];
                hand.dirty = dirtyOf[pair];
            }
            hand.card = rest & 1;
            hand.seen = rest >> 1 & 1;
            hand.started = (rest >> 2) - 1;
            return now.partsAt(place);
        }

        // ---- what is counted ----

        long drunkFrom(int person) {
            return person >= 0 && person < MOST_PEOPLE ? drunkBy[person] : 0;
        }

        long costAt(Office office) {
            long drunkAll = 0;
            for (int p = 0; p < MOST_PEOPLE; p++) {
                drunkAll += drunkBy[p];
            }
            return office.priceOf(DIRTY_PRICE) * drunkAll
                + office.priceOf(AGAIN_PRICE) * washedAgain
                + office.priceOf(LOOK_PRICE) * looks;
        }

        long allParts() {
            long sum = 0;
            for (int i = 0; i < now.size; i++) {
                sum += now.partsAt(i);
            }
            return sum;
        }

        long trueParts() {
            long sum = 0;
            for (int i = 0; i < now.size; i++) {
                long parts = load(i);
                sum += hand.isTrue() ? parts : 0;
            }
            return sum;
        }

        /** PARTS by each of the FACTS. */
        void sumFacts(long[] row) {
            for (int what = 0; what < row.length; what++) {
                row[what] = 0;
            }
            for (int i = 0; i < now.size; i++) {
                long parts = load(i);
                for (int what = 0; what < row.length; what++) {
                    row[what] += hand.isSo(what) ? parts : 0;
                }
            }
        }

        /** PARTS by what is in it and what the card says, not by when it was started. */
        int sumStates(long[] row) {
            for (int i = 0; i < row.length; i++) {
                row[i] = 0;
            }
            for (int i = 0; i < now.size; i++) {
                long parts = load(i);
                int place = Cloud.pairOf(hand.clean, hand.dirty) * 2 + hand.card;
                if (place >= 0 && place < row.length) {
                    row[place] += parts;
                }
            }
            return now.size;
        }

        // ---- what one ought to do ----

        /** What each way costs one who comes now, for all PARTS together. */
        void weighWays(Office office, long[] row) {
            long own = office.priceOf(OWN_PRICE);
            long take = 0;
            long takeSeeing = 0;
            long takeElse = 0;
            long seeingAll = 0;
            long startAll = 0;
            long all = 0;
            for (int i = 0; i < now.size; i++) {
                long parts = load(i);
                long seeing = hand.dirty > 0 ? parts * seeOdds / OUT_OF : 0;
                take += takeCost(office, parts);
                takeSeeing += takeCost(office, seeing);
                takeElse += takeCost(office, parts - seeing);
                seeingAll += seeing;
                startAll += startCost(office, parts);
                all += parts;
            }
            if (row.length >= WAYS) {
                row[WAY_TAKE] = take;
                row[WAY_OWN] = own * all;
                row[WAY_LOOK] = office.priceOf(LOOK_PRICE) * all
                    + Math.min(takeSeeing, own * seeingAll)
                    + Math.min(takeElse, own * (all - seeingAll));
                row[WAY_START] = startAll;
            }
        }

        private long takeCost(Office office, long parts) {
            int all = hand.clean + hand.dirty;
            if (all <= 0) {
                return office.priceOf(OWN_PRICE) * parts;
            }
            return office.priceOf(DIRTY_PRICE) * (parts * hand.dirty / all);
        }

        private long startCost(Office office, long parts) {
            int own = hand.clean + hand.dirty == 0 ? office.priceOf(OWN_PRICE) : 0;
            return parts * (office.priceOf(AGAIN_PRICE) * hand.clean + office.priceOf(WAIT_PRICE) + own);
        }
    }

    /** What was reckoned, kept until something changes. */
    private static final class Ledger {
        private static final int DETAILS = MOST_PEOPLE * MOST_PEOPLE;
        private static final int SLOTS = (SWAPPING + 1) * DETAILS;

        private final Odds odds = new Odds();
        private int version;
        private final int[] stamps = new int[SLOTS];
        private final long[] endings = new long[SLOTS];
        private final long[] costs = new long[SLOTS];
        private final long[][] facts = new long[MOST_VISITS][FACTS];
        private final long[][] behind = new long[MOST_VISITS][2 * Cloud.PAIRS];
        private final int[] statesMany = new int[MOST_VISITS];
        private final long[] drunkFrom = new long[MOST_PEOPLE];
        private long washed;
        private long looks;
        private int givenStamp;
        private final long[][] givenFacts = new long[MOST_VISITS][FACTS];
        private final long[][] givenWays = new long[MOST_VISITS][WAYS];
        private final long[] givenAll = new long[MOST_VISITS];
        private long givenLeft;

        Ledger() {
            version = 1;
        }

        void forget() {
            version++;
        }

        /** PARTS by which the card is TRUE behind the last VISIT. */
        long endBy(World world, int change, int detail) {
            int slot = reckon(world, change, detail);
            return slot >= 0 && slot < SLOTS ? endings[slot] : 0;
        }

        /** COST, times ONE. */
        long costBy(World world, int change, int detail) {
            int slot = reckon(world, change, detail);
            return slot >= 0 && slot < SLOTS ? costs[slot] : 0;
        }

        /** What 0: as endBy(); 1: COST, cut. */
        long endOrCostBy(World world, int change, int detail, int what) {
            int slot = reckon(world, change, detail);
            if (slot < 0 || slot >= SLOTS) {
                return 0;
            }
            return what == 0 ? endings[slot] : costs[slot] / ONE;
        }

        int statesBehind(World world, int visit) {
            reckon(world, AS_IT_IS, 0);
            return isVisit(visit) ? statesMany[visit] : 0;
        }

        long factBehind(World world, int visit, int what) {
            reckon(world, AS_IT_IS, 0);
            return isVisit(visit) && what >= 0 && what < FACTS ? facts[visit][what] : 0;
        }

        long partsBehind(World world, int visit, int clean, int dirty, int card) {
            reckon(world, AS_IT_IS, 0);
            int place = Cloud.pairOf(clean, dirty) * 2 + card;
            return isVisit(visit) && place >= 0 && place < 2 * Cloud.PAIRS ? behind[visit][place] : 0;
        }

        long drunkBy(World world, int person) {
            reckon(world, AS_IT_IS, 0);
            return person >= 0 && person < MOST_PEOPLE ? drunkFrom[person] : 0;
        }

        long washedAgain(World world) {
            reckon(world, AS_IT_IS, 0);
            return washed;
        }

        long looksTaken(World world) {
            reckon(world, AS_IT_IS, 0);
            return looks;
        }

        long factGiven(World world, int visit, int what) {
            reckonGiven(world);
            return isVisit(visit) && what >= 0 && what < FACTS ? givenFacts[visit][what] : 0;
        }

        long wayGiven(World world, int visit, int way) {
            reckonGiven(world);
            return isVisit(visit) && way >= 0 && way < WAYS ? givenWays[visit][way] : 0;
        }

        long allGiven(World world, int visit) {
            reckonGiven(world);
            return isVisit(visit) ? givenAll[visit] : 0;
        }

        long fitting(World world) {
            reckonGiven(world);
            return givenLeft;
        }

        private static boolean isVisit(int visit) {
            return visit >= 0 && visit < MOST_VISITS;
        }

        /** Reckons what is not known yet; the slot that has it then (there is none, if it is none of SLOTS). */
        private int reckon(World world, int change, int detail) {
            int slot = change * DETAILS + detail;
            if (slot < 0 || slot >= SLOTS || stamps[slot] == version) {
                return slot;
            }
            Office office = world.office;
            odds.plan(world, change, detail);
            odds.setOut(office);
            for (int v = 0; v < MOST_VISITS && v < office.diary.total(); v++) {
                if (!odds.isLeftOut(office, v)) {
                    odds.enter(office, v);
                    odds.act(office.diary.personOf(v));
                }
                if (change == AS_IT_IS) {
                    odds.sumFacts(facts[v]);
                    statesMany[v] = odds.sumStates(behind[v]);
                }
            }
            if (change == AS_IT_IS) {
                keepCounts();
            }
            endings[slot] = odds.trueParts();
            costs[slot] = odds.costAt(office);
            stamps[slot] = version;
            return slot;
        }

        private void keepCounts() {
            for (int p = 0; p < MOST_PEOPLE; p++) {
                drunkFrom[p] = odds.drunkFrom(p);
            }
            washed = odds.washedAgain;
            looks = odds.looks;
        }

        private void reckonGiven(World world) {
            if (givenStamp == version) {
                return;
            }
            Office office = world.office;
            odds.plan(world, AS_IT_IS, 0);
            odds.setOut(office);
            for (int v = 0; v < MOST_VISITS && v < office.diary.total(); v++) {
                odds.enter(office, v);
                odds.keepFitting(world.book, v);
                givenAll[v] = odds.allParts();
                odds.sumFacts(givenFacts[v]);
                odds.weighWays(office, givenWays[v]);
                odds.act(office.diary.personOf(v));
            }
            givenLeft = odds.allParts();
            givenStamp = version;
        }
    }

    /** One DAY by a SEED. */
    private static final class Day {
        final Cups cups = new Cups();
        int drunkFrom;
        private int washed;
        private int looks;
        private int seed;

        Day() {
            seed = 0;
        }

        void pass(World world, int firstSeed, int visits) {
            seed = firstSeed;
            drunkFrom = 0;
            washed = 0;
            looks = 0;
            cups.setOut(world.office);
            for (int v = 0; v < MOST_VISITS && v < visits; v++) {
                passVisit(world, v);
            }
        }

        int answer(int what) {
            switch (what) {
                case 0: return cups.clean;
                case 1: return cups.dirty;
                case 2: return cups.card;
                case 3: return drunkFrom;
                case 4: return washed;
                case 5: return looks;
                default: return cups.started;
            }
        }

        private void passVisit(World world, int visit) {
            Office office = world.office;
            cups.enter(office, visit);
            cups.seen = 0;
            if (draw(OUT_OF) < office.toldOf(FALL_ODDS)) {
                cups.card = 1 - cups.card;
            }
            int person = office.diary.personOf(visit);
            Habit habit = world.habitOf(person);
            for (int step = 0; step < habit.steps; step++) {
                if (isDone(habit, step)) {
                    doAct(habit.actOf(step), office.toldOf(SEE_ODDS));
                }
            }
        }

        private boolean isDone(Habit habit, int step) {
            if (!habit.isSo(step, cups.wordWorths())) {
                return false;
            }
            int odds = habit.oddsOf(step);
            return odds == 0 || draw(OUT_OF) < odds;
        }

        private int draw(int below) {
            seed = seed * 1103515245 + 12345;
            int drawn = seed >>> 16 & 32767;
            return below > 0 ? drawn % below : 0;
        }

        private void doAct(int act, int seeOdds) {
            switch (act) {
                case Habit.PUT: cups.dirty += cups.hasRoom() ? 1 : 0; break;
                case Habit.TAKE: drink(); break;
                case Habit.LOOK: lookInside(seeOdds); break;
                case Habit.START: start(); break;
                case Habit.EMPTY: cups.clean = 0; cups.dirty = 0; break;
                case Habit.CLEAN: cups.card = 1; break;
                case Habit.DIRTY: cups.card = 0; break;
                default: cups.card = 1 - cups.card; break;
            }
        }

        private void drink() {
            int all = cups.clean + cups.dirty;
            if (all <= 0) {
                return;
            }
            if (draw(all) < cups.dirty) {
                cups.dirty--;
                drunkFrom++;
            } else {
                cups.clean--;
            }
        }

        private void lookInside(int seeOdds) {
            looks++;
            if (cups.dirty > 0 && draw(OUT_OF) < seeOdds) {
                cups.seen = 1;
            }
        }

        private void start() {
            if (cups.clean + cups.dirty > 0) {
                washed += cups.clean;
                cups.clean += cups.dirty;
                cups.dirty = 0;
                cups.started = cups.visit;
            }
        }
    }
}
