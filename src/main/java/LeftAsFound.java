/** A hut, its things and guests, and the nights they spend there: see the document of the project. */
public final class LeftAsFound {
    public static final int BAD = -1, NOT = -2, FULL = -3, STATE = -5, VOID = -2000000000;

    private static final int NOTHING_THERE = -11, OTHER_KIND = -12, NO_PLACE = -13, SIZE_BELOW_0 = -14;
    private static final long NO_LONG = Long.MIN_VALUE;

    private static final int THINGS = 4, MOST_GUESTS = 7, TOP_LEVEL = 99;
    private static final int NOBODY = -1, NEVER = -1, UNSEEN = -1;

    /** What mend() and of() may name, and what of() alone may. */
    private static final int OUGHT = 0, WORTH = 1, TAKES = 2, BRINGS = 3, SEES = 4, BELIEVES = 5;
    private static final int RULE = 6, PRICE = 7, HONEST = 8;
    private static final int LEVEL = 10, BOOK = 11, FOUND_FIRST = 12;

    /** What a guest may believe; by the picture, 2, is what is left. */
    private static final int BY_FOUND = 0, BY_BOOK = 1, BY_ONE_AHEAD = 3;

    private static final int SHELVES = 6, LONGEST_ROW = 60;
    private static final int BYTES = 0, SHORTS = 1, INTS = 2, LONGS = 3, BOOLEANS = 4;

    private static final int NIGHTS_THAT_COUNT = 30, SEEN_THAT_COUNT = 6, LONG_STAY = 60;

    private final House house;
    private final Scene now;
    private final Scene kept;
    private final Ledger ledger;
    private final Ledger keptLedger;
    private boolean imageKept;
    private final Changes changes;
    private final Law text;
    private final Shelf[] shelves;
    private final Bodies bodies;
    private final Stays stays;
    private final Repeats repeats;
    private final Search search;

    public LeftAsFound() {
        text = new Law();
        house = new House(text);
        now = new Scene();
        kept = new Scene();
        ledger = new Ledger();
        keptLedger = new Ledger();
        changes = new Changes();
        shelves = new Shelf[SHELVES];
        for (int i = 0; i < SHELVES; i++) {
            shelves[i] = new Shelf();
        }
        bodies = new Bodies();
        stays = new Stays(house, now);
        repeats = new Repeats();
        search = new Search(house);
    }

    // ---- guests, things

    public int guest(int takes, int sees) {
        if (!isWithin(takes, House.top(TAKES)) || !isWithin(sees, House.top(SEES))) {
            return BAD;
        }
        return house.isFull() ? FULL : house.welcome(takes, sees, BY_FOUND);
    }

    public int guests(int shelf, int i, int n) {
        if (!isShelf(shelf) || n < 1 || n > MOST_GUESTS) {
            return BAD;
        }
        int refusal = shelves[shelf].refusalOfBytes();
        if (refusal != 0) {
            // A missing row is no fault here: it ends before its first guest.
            return refusal == NOTHING_THERE ? 0 : refusal;
        }
        return welcomeFrom(shelves[shelf], i, n);
    }

    /** A place ahead of the row is none of it, just as one behind its end. */
    private int welcomeFrom(Shelf shelf, int i, int n) {
        int came = 0;
        int at = i;
        while (came < n && !house.isFull() && at >= 0 && at <= shelf.length - 3) {
            int takes = shelf.numberAt(at);
            int sees = shelf.numberAt(at + 1);
            int believes = shelf.numberAt(at + 2);
            if (!isWithin(takes, House.top(TAKES)) || !isWithin(sees, House.top(SEES))
                    || !isWithin(believes, House.top(BELIEVES))) {
                return came;
            }
            house.welcome(takes, sees, believes);
            came++;
            at += 3;
        }
        return came;
    }

    public int mend(int number, int what, int v) {
        int place = house.placeOf(number, what);
        if (place < 0 || !isWithin(v, House.top(what))) {
            return BAD;
        }
        int before = house.told[place];
        if (before != v) {
            house.told[place] = v;
            changes.add(place, before, v);
        }
        return before;
    }

    public int of(int number, int what) {
        if (what == LEVEL || what == BOOK) {
            if (!isThing(number)) {
                return BAD;
            }
            return what == LEVEL ? now.levels[number] : now.books[number];
        }
        if (what == FOUND_FIRST) {
            int pair = house.pairOf(number);
            if (pair < 0) {
                return BAD;
            }
            return now.found[pair] == NEVER ? NOT : now.found[pair];
        }
        int place = house.placeOf(number, what);
        return place < 0 ? BAD : house.told[place];
    }

    public int feed(int letter) {
        if (!isWithin(letter, 255)) {
            return BAD;
        }
        return text.isTapeFull() ? FULL : text.write(letter);
    }

    public int law() {
        int fault = text.enact();
        return fault < 0 ? 1 : -100 - fault;
    }

    // ---- stays in thought

    public int level(int shelf, int thing, int k) {
        if (!isShelf(shelf) || !isThing(thing) || !isWithin(k, NIGHTS_THAT_COUNT)) {
            return BAD;
        }
        int refusal = stays.open(shelves[shelf]);
        if (refusal != 0) {
            return refusal;
        }
        return k > stays.nights ? BAD : stays.levelBehind(k, thing);
    }

    public int lowest(int shelf, int thing) {
        if (!isShelf(shelf) || !isThing(thing)) {
            return BAD;
        }
        int refusal = stays.open(shelves[shelf]);
        return refusal != 0 ? refusal : stays.lowestOf(thing);
    }

    public int below(int shelf, int thing, int x) {
        if (!isShelf(shelf) || !isThing(thing) || !isWithin(x, TOP_LEVEL)) {
            return BAD;
        }
        int refusal = stays.open(shelves[shelf]);
        return refusal != 0 ? refusal : stays.firstBelow(thing, x);
    }

    public int loss(int shelf) {
        if (!isShelf(shelf)) {
            return BAD;
        }
        int refusal = stays.open(shelves[shelf]);
        return refusal != 0 ? refusal : stays.lossWithout(NOBODY);
    }

    public int rest(int shelf, int what) {
        if (!isShelf(shelf) || !isWithin(what, 1 + THINGS)) {
            return BAD;
        }
        int refusal = stays.open(shelves[shelf]);
        if (refusal != 0) {
            return refusal;
        }
        if (!repeats.find(stays)) {
            return NOT;
        }
        if (what == 0) {
            return repeats.first;
        }
        return what == 1 ? repeats.round : stays.then.levels[what - 2];
    }

    public int often(int shelf, int gt, int x) {
        int pair = house.pairOf(gt);
        if (!isShelf(shelf) || pair < 0 || !isWithin(x, TOP_LEVEL)) {
            return BAD;
        }
        int refusal = stays.open(shelves[shelf]);
        return refusal != 0 ? refusal : stays.rarestVisit(pair / THINGS, pair % THINGS, x);
    }

    public int warden(int shelf, int what) {
        if (!isShelf(shelf) || !isWithin(what, 2) || stays.open(shelves[shelf]) != 0) {
            return VOID;
        }
        stays.hireWarden();
        if (what == 0) {
            return stays.wardenEvery;
        }
        return what == 1 ? stays.wardenCost : stays.wardenLoss(0) - stays.wardenCost;
    }

    public int spoils(int shelf, int what) {
        if (!isShelf(shelf) || !isWithin(what, 1)) {
            return BAD;
        }
        int refusal = stays.open(shelves[shelf]);
        if (refusal != 0) {
            return refusal;
        }
        int worst = stays.worstGuest();
        if (worst == NOBODY) {
            return NOT;
        }
        return what == 0 ? worst : stays.lossWithout(worst);
    }

    public int order(int shelf, int k) {
        if (!isShelf(shelf) || k < -1) {
            return BAD;
        }
        int refusal = stays.open(shelves[shelf]);
        if (refusal != 0) {
            return refusal;
        }
        if (k >= stays.placesToOrder()) {
            return NOT;
        }
        stays.findBestOrder();
        return k < 0 ? stays.bestLoss : stays.bestPlaces[k];
    }

    public long tin(int shelf, int part) {
        if (!isShelf(shelf) || !isWithin(part, 1) || stays.open(shelves[shelf]) != 0) {
            return NO_LONG;
        }
        int above = stays.takenInAll() * house.honest();
        int common = greatestCommon(above, 12);
        return part == 0 ? above / common : 12 / common;
    }

    /** Never 0 as long as b is above 0: so it may divide. */
    private static int greatestCommon(int a, int b) {
        int x = a;
        int y = b;
        for (int i = 0; i < 64 && y != 0; i++) {
            int left = x % y;
            x = y;
            y = left;
        }
        return Math.max(x, 1);
    }

    // ---- read back, draws

    public int who(int shelf, int thing, int k) {
        if (!isShelf(shelf) || !isThing(thing) || !isWithin(k, SEEN_THAT_COUNT - 1)) {
            return BAD;
        }
        int refusal = shelves[shelf].refusalOfBytes();
        if (refusal != 0) {
            return refusal;
        }
        search.start(shelves[shelf], now, thing);
        return k >= search.nights ? BAD : search.mayHaveBeen(k);
    }

    public int ways(int shelf, int thing) {
        if (!isShelf(shelf) || !isThing(thing)) {
            return BAD;
        }
        int refusal = shelves[shelf].refusalOfBytes();
        if (refusal != 0) {
            return refusal;
        }
        search.start(shelves[shelf], now, thing);
        return search.countWays();
    }

    public int judge(int ss, int thing) {
        if (ss < 0 || !isShelf(ss / 10) || !isShelf(ss % 10) || !isThing(thing)) {
            return BAD;
        }
        int ofStays = stays.open(shelves[ss / 10]);
        Shelf seen = shelves[ss % 10];
        int ofSeen = seen.refusalOfBytes();
        if (ofStays == NOTHING_THERE || ofSeen == NOTHING_THERE) {
            return NOTHING_THERE;
        }
        if (ofStays != 0 || ofSeen != 0) {
            return OTHER_KIND;
        }
        return stays.firstUnlike(seen, thing);
    }

    public int since(int shelf, int thing, int x) {
        if (!isShelf(shelf) || !isThing(thing) || !isWithin(x, TOP_LEVEL)) {
            return BAD;
        }
        int refusal = stays.open(shelves[shelf]);
        return refusal != 0 ? refusal : stays.lastLacking(thing, x);
    }

    public int drawn(int seed, int n, int what) {
        if (n < 1 || n > LONG_STAY || !isWithin(what, 1)) {
            return BAD;
        }
        stays.draw(seed, n);
        return what == 0 ? stays.drawnLoss : stays.drawnLowest;
    }

    // ---- in deed

    public int night(int guest) {
        if (!house.hasGuest(guest)) {
            return BAD;
        }
        now.spend(house, guest);
        int lacks = now.lacks(house);
        ledger.enter(guest, lacks);
        return lacks;
    }

    public int set(int thing, int v) {
        if (!isThing(thing) || !isWithin(v, TOP_LEVEL)) {
            return BAD;
        }
        int before = now.levels[thing];
        now.levels[thing] = v;
        return before;
    }

    public int forget(int guest) {
        if (!house.hasGuest(guest)) {
            return BAD;
        }
        if (!now.wasThere(guest)) {
            return 0;
        }
        now.forgetGuest(guest);
        return 1;
    }

    public int led(int what) {
        switch (what) {
            case 0:
                return ledger.nights;
            case 1:
                return ledger.sum;
            case 2:
                return ledger.worst;
            case 3:
                return ledger.worstGuest;
            default:
                return BAD;
        }
    }

    public int image() {
        kept.copy(now);
        keptLedger.copy(ledger);
        imageKept = true;
        return ledger.nights;
    }

    public int back() {
        if (!imageKept) {
            return STATE;
        }
        now.copy(kept);
        ledger.copy(keptLedger);
        return ledger.nights;
    }

    public int undo() {
        return changes.takeBack(house) ? changes.done : STATE;
    }

    public int redo() {
        return changes.doAgain(house) ? changes.size - changes.done : STATE;
    }

    // ---- acts, shelves

    public int body(int kind) {
        if (!isWithin(kind, Bodies.KINDS - 1)) {
            return BAD;
        }
        return bodies.isFull() ? FULL : bodies.add(kind);
    }

    public int act(int body, int act, int x) {
        return bodies.perform(body, act, x);
    }

    public int trace(int i) {
        return i < 0 || i >= bodies.traced() ? BAD : bodies.ran[i];
    }

    public int keep(int shelf, int body) {
        if (!isShelf(shelf) || body < -1 || body >= bodies.size) {
            return BAD;
        }
        if (body == -1) {
            shelves[shelf].clear();
        } else {
            shelves[shelf].holdBody(body);
        }
        return 1;
    }

    public int row(int shelf, int sort, int n) {
        if (!isShelf(shelf) || !isWithin(sort, BOOLEANS) || n > LONGEST_ROW) {
            return BAD;
        }
        if (n < 0) {
            return SIZE_BELOW_0;
        }
        shelves[shelf].holdRow(sort, n);
        return 1;
    }

    public int put(int shelf, int i, long v) {
        if (!isShelf(shelf)) {
            return BAD;
        }
        Shelf place = shelves[shelf];
        int refusal = place.refusalOfElement(i);
        if (refusal != 0) {
            return refusal;
        }
        place.elements[i] = Shelf.narrowed(place.sort, v);
        return 1;
    }

    public long element(int shelf, int i) {
        if (!isShelf(shelf) || shelves[shelf].refusalOfElement(i) != 0) {
            return NO_LONG;
        }
        return shelves[shelf].elements[i];
    }

    public int shift(int shelf, int i, int other, int j, int n) {
        if (!isShelf(shelf) || !isShelf(other)) {
            return BAD;
        }
        Shelf from = shelves[shelf];
        Shelf to = shelves[other];
        if (from.holds == Shelf.NOTHING || to.holds == Shelf.NOTHING) {
            return NOTHING_THERE;
        }
        if (from.holds != Shelf.ROW || to.holds != Shelf.ROW || from.sort != to.sort) {
            return OTHER_KIND;
        }
        if (i < 0 || j < 0 || n < 0 || n > from.length - i || n > to.length - j) {
            return NO_PLACE;
        }
        System.arraycopy(from.elements, i, to.elements, j, n);
        return n;
    }

    public int taken(int shelf, int k) {
        if (!isShelf(shelf) || !isWithin(k, Bodies.KINDS - 1)) {
            return BAD;
        }
        Shelf place = shelves[shelf];
        if (place.holds == Shelf.NOTHING) {
            return NOTHING_THERE;
        }
        if (place.holds != Shelf.BODY || !bodies.isUnder(place.body, k)) {
            return OTHER_KIND;
        }
        return bodies.kindOf(place.body);
    }

    public int count(int what) {
        switch (what) {
            case 0:
                return house.guests;
            case 1:
                return now.guestsThere();
            case 2:
                return text.onTape;
            case 3:
                return changes.done;
            case 4:
                return bodies.size;
            case 5:
                return bodies.runs;
            default:
                return BAD;
        }
    }

    private static boolean isWithin(int v, int top) {
        return v >= 0 && v <= top;
    }

    private static boolean isThing(int thing) {
        return thing >= 0 && thing < THINGS;
    }

    private static boolean isShelf(int shelf) {
        return shelf >= 0 && shelf < SHELVES;
    }

    /** All numbers that mend() tells, in one row, so that a change is a place and two values. */
    private static final class House {
        private static final int[] FIRST = {0, 4, 8, 36, 64, 71, 78, 79, 80};
        private static final int[] TOP = {99, 9, 9, 20, 50, 3, 50, 999, 12};
        private static final int[] AT_FIRST = {50, 1, 1, 0, 5, 0, 50, 20, 6};
        private static final int[] HOW_MANY = {4, 4, 28, 28, 7, 7, 1, 1, 1};
        private static final int NUMBERS = 81;
        private static final int MOST_CHANGE = 20;

        final int[] told;
        final Law law;
        int guests;

        House(Law law) {
            this.law = law;
            told = new int[NUMBERS];
            for (int what = OUGHT; what <= HONEST; what++) {
                for (int i = 0; i < HOW_MANY[what]; i++) {
                    told[FIRST[what] + i] = AT_FIRST[what];
                }
            }
        }

        static int top(int what) {
            return what >= OUGHT && what <= HONEST ? TOP[what] : -1;
        }

        /** Where a number stands in the row, or -1 if there is none such. */
        int placeOf(int number, int what) {
            int index;
            switch (what) {
                case OUGHT:
                case WORTH:
                    index = isThing(number) ? number : -1;
                    break;
                case TAKES:
                case BRINGS:
                    index = pairOf(number);
                    break;
                case SEES:
                case BELIEVES:
                    index = hasGuest(number) ? number : -1;
                    break;
                case RULE:
                case PRICE:
                case HONEST:
                    index = number == 0 ? 0 : -1;
                    break;
                default:
                    return -1;
            }
            return index < 0 ? -1 : FIRST[what] + index;
        }

        /** Of gt: guest * THINGS + thing, or -1. */
        int pairOf(int gt) {
            if (gt < 0 || !hasGuest(gt / 10) || !isThing(gt % 10)) {
                return -1;
            }
            return gt / 10 * THINGS + gt % 10;
        }

        boolean hasGuest(int guest) {
            return guest >= 0 && guest < guests;
        }

        boolean isFull() {
            return guests >= MOST_GUESTS;
        }

        /** Behind isFull(); a guest's other numbers still stand as at first, as nobody could mend them. */
        int welcome(int takes, int sees, int believes) {
            int guest = guests;
            for (int thing = 0; thing < THINGS; thing++) {
                told[FIRST[TAKES] + guest * THINGS + thing] = takes;
            }
            told[FIRST[SEES] + guest] = sees;
            told[FIRST[BELIEVES] + guest] = believes;
            guests++;
            return guest;
        }

        int ought(int thing) {
            return told[FIRST[OUGHT] + thing];
        }

        int worth(int thing) {
            return told[FIRST[WORTH] + thing];
        }

        int believes(int guest) {
            return told[FIRST[BELIEVES] + guest];
        }

        int price() {
            return told[FIRST[PRICE]];
        }

        int honest() {
            return told[FIRST[HONEST]];
        }

        /** What lacks of a thing at a level, by its worth. */
        int lack(int thing, int level) {
            return Math.max(ought(thing) - level, 0) * worth(thing);
        }

        /** What a guest believes that a thing ought to be; ahead is NEVER for the first of all. */
        int believed(int guest, int thing, int foundFirst, int written, int ahead) {
            switch (believes(guest)) {
                case BY_FOUND:
                    return foundFirst;
                case BY_BOOK:
                    return written;
                case BY_ONE_AHEAD:
                    return ahead == NEVER ? ought(thing) : ahead;
                default:
                    return ought(thing);
            }
        }

        boolean writesBook(int guest) {
            return believes(guest) == BY_BOOK;
        }

        /** The level behind a night of a guest who found f and believes that it ought to be o. */
        int levelAfter(int guest, int thing, int f, int o) {
            int takes = told[FIRST[TAKES] + guest * THINGS + thing];
            int brings = told[FIRST[BRINGS] + guest * THINGS + thing];
            int sees = Math.min(told[FIRST[SEES] + guest], told[FIRST[RULE]]);
            int change;
            if (law.length > 0) {
                change = held(law.work(f, o, takes, brings, sees, thing), -MOST_CHANGE, MOST_CHANGE);
            } else if (o - f > sees) {
                change = Math.min(brings - takes, o - f);
            } else {
                change = -takes;
            }
            return held(f + change, 0, TOP_LEVEL);
        }

        private static int held(int v, int least, int most) {
            return Math.max(least, Math.min(v, most));
        }
    }

    /** What nights change: levels, the book, what each guest found first, what the one ahead believed. */
    private static final class Scene {
        final int[] levels;
        final int[] books;
        final int[] found;
        final int[] ahead;

        Scene() {
            levels = new int[] {50, 50, 50, 50};
            books = new int[] {50, 50, 50, 50};
            ahead = new int[] {NEVER, NEVER, NEVER, NEVER};
            found = new int[MOST_GUESTS * THINGS];
            for (int i = 0; i < found.length; i++) {
                found[i] = NEVER;
            }
        }

        void copy(Scene other) {
            System.arraycopy(other.levels, 0, levels, 0, THINGS);
            System.arraycopy(other.books, 0, books, 0, THINGS);
            System.arraycopy(other.ahead, 0, ahead, 0, THINGS);
            System.arraycopy(other.found, 0, found, 0, found.length);
        }

        boolean wasThere(int guest) {
            return found[guest * THINGS] != NEVER;
        }

        int guestsThere() {
            int there = 0;
            for (int guest = 0; guest < MOST_GUESTS; guest++) {
                there += wasThere(guest) ? 1 : 0;
            }
            return there;
        }

        void forgetGuest(int guest) {
            for (int thing = 0; thing < THINGS; thing++) {
                found[guest * THINGS + thing] = NEVER;
            }
        }

        /** A night; of one who is no guest nothing changes. */
        void spend(House house, int guest) {
            if (!house.hasGuest(guest)) {
                return;
            }
            for (int thing = 0; thing < THINGS; thing++) {
                int f = levels[thing];
                int pair = guest * THINGS + thing;
                if (found[pair] == NEVER) {
                    found[pair] = f;
                }
                int o = house.believed(guest, thing, found[pair], books[thing], ahead[thing]);
                ahead[thing] = o;
                levels[thing] = house.levelAfter(guest, thing, f, o);
                if (house.writesBook(guest)) {
                    books[thing] = levels[thing];
                }
            }
        }

        int lacks(House house) {
            int sum = 0;
            for (int thing = 0; thing < THINGS; thing++) {
                sum += house.lack(thing, levels[thing]);
            }
            return sum;
        }

        void becomeAsOught(House house) {
            for (int thing = 0; thing < THINGS; thing++) {
                levels[thing] = house.ought(thing);
            }
        }
    }

    /** What led() tells of nights in deed. */
    private static final class Ledger {
        int nights;
        int sum;
        int worst;
        int worstGuest = NOT;

        void enter(int guest, int lacks) {
            if (nights == 0 || lacks > worst) {
                worst = lacks;
                worstGuest = guest;
            }
            nights++;
            sum += lacks;
        }

        void copy(Ledger other) {
            nights = other.nights;
            sum = other.sum;
            worst = other.worst;
            worstGuest = other.worstGuest;
        }
    }

    /** The latest changes: the first done of them may be undone, those behind may be done again. */
    private static final class Changes {
        private static final int MOST = 40;

        final int[] places = new int[MOST];
        final int[] befores = new int[MOST];
        final int[] afters = new int[MOST];
        int done;
        int size;

        void add(int place, int before, int after) {
            if (done == MOST) {
                dropOldest();
            }
            places[done] = place;
            befores[done] = before;
            afters[done] = after;
            done++;
            size = done;
        }

        private void dropOldest() {
            System.arraycopy(places, 1, places, 0, MOST - 1);
            System.arraycopy(befores, 1, befores, 0, MOST - 1);
            System.arraycopy(afters, 1, afters, 0, MOST - 1);
            done--;
        }

        boolean takeBack(House house) {
            if (done == 0) {
                return false;
            }
            done--;
            house.told[places[done]] = befores[done];
            return true;
        }

        boolean doAgain(House house) {
            if (done >= size) {
                return false;
            }
            house.told[places[done]] = afters[done];
            done++;
            return true;
        }
    }

    /**
     * The tape, and the law in force as steps for a pile of numbers: every step comes from a byte of its own,
     * but for the last line's end, so MOST_BYTES + 1 steps are enough, and so is as high a pile.
     */
    private static final class Law {
        private static final int MOST_BYTES = 120, MOST_OPEN = 6, MOST_DIGITS = 4, MOST_STEPS = MOST_BYTES + 1;
        private static final String NAMES = "fotbsk";
        private static final int NUMBER = 0, NAME = 1, INVERT = 2, NEGATE = 3, UNLESS = 4, ANSWER = 5;
        /** Steps of two numbers, in the order of their signs. */
        private static final int OR = 6, AND = 7, LESS = 8, SAME = 9, MORE = 10;
        private static final int ADD = 11, SUBTRACT = 12, TIMES = 13, PARTS = 14;
        private static final String SIGNS = "|&<=>+-*/%";
        private static final int[] LEVEL_OF = {0, 1, 2, 2, 2, 3, 3, 4, 4, 4};
        private static final int COMPARED = 2, LAST_LEVEL = 4;
        /** A step is its sort times this, and its number: the value, the name, or where to go on. */
        private static final int STEP = 16384;

        final int[] tape = new int[MOST_BYTES];
        int onTape;
        int length;
        private int[] steps = new int[MOST_STEPS];
        private int[] draft = new int[MOST_STEPS];
        private final int[] pile = new int[MOST_STEPS];
        private final int[] values = new int[6];
        private int drafted;
        private int place;
        private boolean faulty;

        boolean isTapeFull() {
            return onTape >= MOST_BYTES;
        }

        int write(int letter) {
            tape[onTape] = letter;
            onTape++;
            return onTape;
        }

        /** -1, or the place of the fault: then the law in force stays. */
        int enact() {
            place = 0;
            drafted = 0;
            faulty = false;
            readLines();
            onTape = 0;
            if (faulty) {
                return place;
            }
            int[] spare = steps;
            steps = draft;
            draft = spare;
            length = drafted;
            return -1;
        }

        // Wherever a byte doesn't fit, place stays on it: all readers leave it there as soon as faulty is set.

        private void readLines() {
            for (int line = 0; line <= MOST_BYTES; line++) {
                readLine();
                if (faulty || place >= onTape) {
                    return;
                }
                if (!passes(';')) {
                    faulty = true;
                    return;
                }
            }
        }

        private void readLine() {
            readLevel(0, 0);
            int unless = -1;
            if (passes('?')) {
                unless = drafted;
                emit(UNLESS, 0);
                readLevel(0, 0);
            }
            emit(ANSWER, 0);
            if (unless >= 0 && unless < MOST_STEPS) {
                draft[unless] = UNLESS * STEP + drafted;
            }
        }

        /** E is of level 0, A 1, B 2, S 3, P 4, O behind them; of B alone there is but one sign. */
        private void readLevel(int level, int open) {
            if (level > LAST_LEVEL) {
                readOne(open);
                return;
            }
            readLevel(level + 1, open);
            for (int i = 0; i < MOST_BYTES; i++) {
                int sort = passSign(level);
                if (sort < 0) {
                    return;
                }
                readLevel(level + 1, open);
                emit(sort, 0);
                if (level == COMPARED) {
                    return;
                }
            }
        }

        /** The sort of the step that a sign of this level asks for, or -1 if none comes next. */
        private int passSign(int level) {
            int sign = place < onTape ? SIGNS.indexOf((char) tape[place]) : -1;
            if (faulty || sign < 0 || LEVEL_OF[sign] != level) {
                return -1;
            }
            place++;
            return OR + sign;
        }

        private void readOne(int open) {
            if (faulty) {
                return;
            }
            int next = place < onTape ? tape[place] : -1;
            if (next == '(' || next == '!' || next == '-') {
                readOpened(next, open);
            } else if (isDigit(next)) {
                readNumber();
            } else {
                int name = next < 0 ? -1 : NAMES.indexOf((char) next);
                if (name < 0) {
                    faulty = true;
                } else {
                    place++;
                    emit(NAME, name);
                }
            }
        }

        private void readOpened(int sign, int open) {
            if (open >= MOST_OPEN) {
                faulty = true;
                return;
            }
            place++;
            if (sign == '(') {
                readLevel(0, open + 1);
                if (!passes(')')) {
                    faulty = true;
                }
            } else {
                readOne(open + 1);
                emit(sign == '!' ? INVERT : NEGATE, 0);
            }
        }

        private void readNumber() {
            int value = 0;
            for (int i = 0; i < MOST_DIGITS && place < onTape && isDigit(tape[place]); i++) {
                value = value * 10 + tape[place] - '0';
                place++;
            }
            emit(NUMBER, value);
        }

        private static boolean isDigit(int letter) {
            return letter >= '0' && letter <= '9';
        }

        private boolean passes(int letter) {
            if (faulty || place >= onTape || tape[place] != letter) {
                return false;
            }
            place++;
            return true;
        }

        private void emit(int sort, int number) {
            if (!faulty && drafted < MOST_STEPS) {
                draft[drafted] = sort * STEP + number;
                drafted++;
            }
        }

        /** What the law in force gives; the values are those of NAMES, in their order. */
        int work(int f, int o, int t, int b, int s, int k) {
            values[0] = f;
            values[1] = o;
            values[2] = t;
            values[3] = b;
            values[4] = s;
            values[5] = k;
            int high = 0;
            int at = 0;
            // Steps go forward only, so none is taken twice.
            for (int i = 0; i < MOST_STEPS && at < length && high < MOST_STEPS; i++) {
                int sort = steps[at] / STEP;
                int number = steps[at] % STEP;
                at++;
                if (sort <= NAME) {
                    pile[high] = sort == NUMBER ? number : valueOf(number);
                    high++;
                } else if (sort >= OR && high >= 2) {
                    high--;
                    pile[high - 1] = ofTwo(sort, pile[high - 1], pile[high]);
                } else if (high < 1 || sort == ANSWER) {
                    return high < 1 ? 0 : pile[high - 1];
                } else if (sort == UNLESS) {
                    high--;
                    at = pile[high] == 0 ? number : at;
                } else {
                    pile[high - 1] = sort == NEGATE ? -pile[high - 1] : pile[high - 1] == 0 ? 1 : 0;
                }
            }
            return 0;
        }

        private int valueOf(int name) {
            return name >= 0 && name < values.length ? values[name] : 0;
        }

        private static int ofTwo(int sort, int a, int b) {
            switch (sort) {
                case OR:
                    return a != 0 || b != 0 ? 1 : 0;
                case AND:
                    return a != 0 && b != 0 ? 1 : 0;
                case LESS:
                    return a < b ? 1 : 0;
                case SAME:
                    return a == b ? 1 : 0;
                case MORE:
                    return a > b ? 1 : 0;
                case ADD:
                    return a + b;
                case SUBTRACT:
                    return a - b;
                case TIMES:
                    return a * b;
                case PARTS:
                    return b == 0 ? 0 : a / b;
                default:
                    return b == 0 ? 0 : a % b;
            }
        }
    }

    /** What a shelf holds: nothing, a body, or a row, whose elements of any sort stand as longs. */
    private static final class Shelf {
        static final int NOTHING = 0, BODY = 1, ROW = 2;

        final long[] elements = new long[LONGEST_ROW];
        int holds;
        int body;
        int sort;
        int length;

        void clear() {
            holds = NOTHING;
            length = 0;
        }

        void holdBody(int number) {
            holds = BODY;
            body = number;
            length = 0;
        }

        void holdRow(int ofSort, int n) {
            holds = ROW;
            sort = ofSort;
            length = n;
            for (int i = 0; i < n; i++) {
                elements[i] = 0;
            }
        }

        int refusalOfBytes() {
            if (holds == NOTHING) {
                return NOTHING_THERE;
            }
            return holds == ROW && sort == BYTES ? 0 : OTHER_KIND;
        }

        int refusalOfElement(int i) {
            if (holds == NOTHING) {
                return NOTHING_THERE;
            }
            if (holds != ROW) {
                return OTHER_KIND;
            }
            return i < 0 || i >= length ? NO_PLACE : 0;
        }

        /** For places that are there, of rows whose elements are ints. */
        int numberAt(int i) {
            return (int) elements[i];
        }

        static long narrowed(int sort, long v) {
            switch (sort) {
                case BYTES:
                    return (byte) v;
                case SHORTS:
                    return (short) v;
                case INTS:
                    return (int) v;
                case LONGS:
                    return v;
                default:
                    return v != 0 ? 1 : 0;
            }
        }
    }

    /** Bodies of kinds, and their acts: each body of an act has a number, 0 where a kind has none of its own. */
    private static final class Bodies {
        static final int KINDS = 8;
        private static final int MOST = 50, MOST_TRACED = 24, ACTS = 4, DEEPEST = 40;
        private static final int COMES = 0, LEAVES = 1, SEES_IT = 2, TELLS = 3;
        private static final int[] ABOVE = {-1, 0, 0, 2, 1, 3, 0, 6};
        private static final int[] OWN = {
            1, 10, 11, 2,
            20, 0, 0, 0,
            0, 30, 0, 0,
            0, 41, 40, 0,
            0, 0, 0, 50,
            0, 0, 60, 61,
            70, 0, 0, 0,
            81, 80, 0, 0
        };

        final int[] kinds = new int[MOST];
        int size;
        final int[] ran = new int[MOST_TRACED];
        int runs;
        private int self;
        private int selfKind;

        boolean isFull() {
            return size >= MOST;
        }

        int add(int kind) {
            kinds[size] = kind;
            size++;
            return size - 1;
        }

        int kindOf(int number) {
            return number >= 0 && number < size ? kinds[number] : -1;
        }

        boolean isUnder(int number, int kind) {
            int at = kindOf(number);
            for (int i = 0; i < KINDS && at >= 0; i++) {
                if (at == kind) {
                    return true;
                }
                at = ABOVE[at];
            }
            return false;
        }

        int traced() {
            return Math.min(runs, MOST_TRACED);
        }

        int perform(int number, int act, int x) {
            runs = 0;
            if (number < 0 || number >= size || act < 0 || act >= ACTS) {
                return 0;
            }
            self = number;
            selfKind = kinds[number];
            return run(selfKind, act, x, 0);
        }

        /** The act's body of a kind, or of the next one above that has one. */
        private int run(int kind, int act, int x, int depth) {
            int at = kind;
            for (int i = 0; i < KINDS && at >= 0 && OWN[at * ACTS + act] == 0; i++) {
                at = ABOVE[at];
            }
            if (at < 0 || depth >= DEEPEST) {
                return 0;
            }
            int number = OWN[at * ACTS + act];
            if (runs < MOST_TRACED) {
                ran[runs] = number;
            }
            runs++;
            return answer(number, ABOVE[at], x, depth + 1);
        }

        private int answer(int number, int above, int x, int depth) {
            switch (number) {
                case 1:
                    return x + self;
                case 2:
                    return run(selfKind, LEAVES, x, depth) - run(selfKind, SEES_IT, 1, depth);
                case 10:
                    return run(selfKind, COMES, x, depth) * 2;
                case 11:
                    return x ^ self;
                case 20:
                    return run(above, COMES, x, depth) + 3;
                case 30:
                    return -run(above, LEAVES, x, depth);
                case 40:
                    return run(above, SEES_IT, x, depth) * 3;
                case 41:
                    return run(above, LEAVES, x + 1, depth);
                case 50:
                    return run(above, TELLS, x, depth) ^ 5;
                case 60:
                    return run(above, SEES_IT, x, depth) - run(selfKind, COMES, 2, depth);
                case 61:
                    return run(above, TELLS, x, depth) + 1;
                case 70:
                    return run(above, COMES, x, depth) * 2;
                case 80:
                    return run(above, LEAVES, x, depth) + run(selfKind, SEES_IT, 2, depth);
                default:
                    return run(above, COMES, x, depth) - 1;
            }
        }
    }

    /** Nights in thought: then is the scene behind them, now stays as it is. */
    private static final class Stays {
        private static final int MOST_OTHERS = 12, MOST_BETWEEN = 20, PLACES = 5, ORDERS = 120;

        final House house;
        final Scene now;
        final Scene then = new Scene();
        private final int[] before = new int[THINGS];
        private final int[] plan = new int[NIGHTS_THAT_COUNT];
        int nights;
        int wardenEvery;
        int wardenCost;
        private final int[] places = new int[PLACES];
        final int[] bestPlaces = new int[PLACES];
        int bestLoss;
        int drawnLoss;
        int drawnLowest;

        Stays(House house, Scene now) {
            this.house = house;
            this.now = now;
        }

        /** The row's nights become the plan; else the refusal. */
        int open(Shelf shelf) {
            int refusal = shelf.refusalOfBytes();
            if (refusal != 0) {
                return refusal;
            }
            nights = Math.min(shelf.length, NIGHTS_THAT_COUNT);
            for (int i = 0; i < nights; i++) {
                int guest = shelf.numberAt(i);
                plan[i] = house.hasGuest(guest) ? guest : NOBODY;
            }
            return 0;
        }

        void start() {
            then.copy(now);
        }

        void spendRow() {
            for (int i = 0; i < nights; i++) {
                then.spend(house, plan[i]);
            }
        }

        /** Of the plan read again and again; an empty one leaves the hut empty. */
        private int guestAgain(int night) {
            return nights > 0 ? plan[night % nights] : NOBODY;
        }

        int levelBehind(int k, int thing) {
            start();
            for (int i = 0; i < k; i++) {
                then.spend(house, plan[i]);
            }
            return then.levels[thing];
        }

        int lowestOf(int thing) {
            start();
            int least = nights == 0 ? then.levels[thing] : TOP_LEVEL;
            for (int i = 0; i < nights; i++) {
                then.spend(house, plan[i]);
                least = Math.min(least, then.levels[thing]);
            }
            return least;
        }

        int firstBelow(int thing, int x) {
            start();
            for (int i = 0; i < nights; i++) {
                then.spend(house, plan[i]);
                if (then.levels[thing] < x) {
                    return i;
                }
            }
            return NOT;
        }

        int lastLacking(int thing, int x) {
            start();
            int last = NOT;
            for (int i = 0; i < nights; i++) {
                then.spend(house, plan[i]);
                if (house.ought(thing) - then.levels[thing] <= x) {
                    last = i;
                }
            }
            return last;
        }

        int firstUnlike(Shelf seen, int thing) {
            start();
            for (int i = 0; i < nights && i < seen.length; i++) {
                then.spend(house, plan[i]);
                int told = seen.numberAt(i);
                if (told != UNSEEN && told != then.levels[thing]) {
                    return i;
                }
            }
            return NOT;
        }

        /** The loss if this guest's nights are empty; of NOBODY they are so already. */
        int lossWithout(int guest) {
            start();
            int sum = 0;
            for (int i = 0; i < nights; i++) {
                then.spend(house, plan[i] == guest ? NOBODY : plan[i]);
                sum += then.lacks(house);
            }
            return sum;
        }

        private boolean comes(int guest) {
            for (int i = 0; i < nights; i++) {
                if (plan[i] == guest) {
                    return true;
                }
            }
            return false;
        }

        int worstGuest() {
            int worst = NOBODY;
            int least = 0;
            for (int guest = 0; guest < house.guests; guest++) {
                if (comes(guest)) {
                    int left = lossWithout(guest);
                    if (worst == NOBODY || left < least) {
                        worst = guest;
                        least = left;
                    }
                }
            }
            return worst;
        }

        int rarestVisit(int guest, int thing, int x) {
            for (int others = MOST_OTHERS; others >= 1; others--) {
                if (holdsWithVisits(guest, others, thing, x)) {
                    return others;
                }
            }
            return NOT;
        }

        private boolean holdsWithVisits(int guest, int others, int thing, int x) {
            start();
            int read = 0;
            for (int i = 0; i < LONG_STAY; i++) {
                if (i % (others + 1) == others) {
                    then.spend(house, guest);
                } else {
                    then.spend(house, guestAgain(read));
                    read++;
                }
                if (then.levels[thing] < x) {
                    return false;
                }
            }
            return true;
        }

        void hireWarden() {
            wardenEvery = 0;
            for (int every = MOST_BETWEEN; every >= 1; every--) {
                int cost = wardenLoss(every) + LONG_STAY / every * house.price();
                if (wardenEvery == 0 || cost < wardenCost) {
                    wardenEvery = every;
                    wardenCost = cost;
                }
            }
        }

        /** The loss of a long stay with a warden behind so many nights; 0: without him. */
        int wardenLoss(int every) {
            start();
            int sum = 0;
            for (int i = 0; i < LONG_STAY; i++) {
                then.spend(house, guestAgain(i));
                sum += then.lacks(house);
                if (every > 0 && (i + 1) % every == 0) {
                    then.becomeAsOught(house);
                }
            }
            return sum;
        }

        int placesToOrder() {
            return Math.min(nights, PLACES);
        }

        void findBestOrder() {
            for (int i = 0; i < PLACES; i++) {
                places[i] = i;
            }
            keepOrder(lossInOrder());
            for (int i = 1; i < ORDERS && nextOrder(); i++) {
                int sum = lossInOrder();
                if (sum < bestLoss) {
                    keepOrder(sum);
                }
            }
        }

        private void keepOrder(int sum) {
            bestLoss = sum;
            System.arraycopy(places, 0, bestPlaces, 0, PLACES);
        }

        private int lossInOrder() {
            start();
            int ordered = placesToOrder();
            int sum = 0;
            for (int i = 0; i < nights; i++) {
                then.spend(house, plan[i < ordered ? places[i] : i]);
                sum += then.lacks(house);
            }
            return sum;
        }

        /** The next order of the places that are there, by places; false behind the last. */
        private boolean nextOrder() {
            int ordered = placesToOrder();
            int rise = ordered - 2;
            while (rise >= 0 && places[rise] > places[rise + 1]) {
                rise--;
            }
            if (rise < 0) {
                return false;
            }
            int above = ordered - 1;
            while (above > rise && places[above] < places[rise]) {
                above--;
            }
            swapPlaces(rise, above);
            for (int i = 1; rise + i < ordered - i; i++) {
                swapPlaces(rise + i, ordered - i);
            }
            return true;
        }

        private void swapPlaces(int i, int j) {
            int spare = places[i];
            places[i] = places[j];
            places[j] = spare;
        }

        /** What the guests of the plan took from ought on, by worth; what one brings of a thing pays for no other. */
        int takenInAll() {
            start();
            int sum = 0;
            for (int i = 0; i < nights; i++) {
                System.arraycopy(then.levels, 0, before, 0, THINGS);
                then.spend(house, plan[i]);
                for (int thing = 0; thing < THINGS; thing++) {
                    sum += Math.max(house.lack(thing, then.levels[thing]) - house.lack(thing, before[thing]), 0);
                }
            }
            return sum;
        }

        void draw(int seed, int n) {
            start();
            drawnLoss = 0;
            drawnLowest = TOP_LEVEL;
            int z = seed;
            for (int i = 0; i < n; i++) {
                z = z * 1103515245 + 12345;
                then.spend(house, (z >>> 8) % (house.guests + 1));
                drawnLoss += then.lacks(house);
                drawnLowest = Math.min(drawnLowest, then.levels[0]);
            }
        }
    }

    /** Rest: the rows of stays whose scene has come before; scenes are kept packed, by fours in an int. */
    private static final class Repeats {
        private static final int MOST_ROWS = 200, INTS_EACH = 2 + MOST_GUESTS;

        private final int[] scenes = new int[(MOST_ROWS + 1) * INTS_EACH];
        int first;
        int round;

        /** Leaves the stays' scene then at rest. */
        boolean find(Stays stays) {
            stays.start();
            for (int rows = 0; rows <= MOST_ROWS; rows++) {
                if (rows > 0) {
                    stays.spendRow();
                }
                keepScene(rows, stays.then);
                for (int earlier = 0; earlier < rows; earlier++) {
                    if (areAlike(earlier, rows)) {
                        first = earlier;
                        round = rows - earlier;
                        return true;
                    }
                }
            }
            return false;
        }

        private void keepScene(int rows, Scene scene) {
            int at = rows * INTS_EACH;
            scenes[at] = packed(scene.levels, 0);
            scenes[at + 1] = packed(scene.books, 0);
            for (int guest = 0; guest < MOST_GUESTS; guest++) {
                scenes[at + 2 + guest] = packed(scene.found, guest * THINGS);
            }
        }

        /** Unlike fours pack unlike: all are 0 .. 99, or all are NEVER. */
        private static int packed(int[] numbers, int from) {
            int all = 0;
            for (int i = 0; i < THINGS; i++) {
                all = all * (TOP_LEVEL + 1) + numbers[from + i];
            }
            return all;
        }

        private boolean areAlike(int rows, int others) {
            for (int i = 0; i < INTS_EACH; i++) {
                if (scenes[rows * INTS_EACH + i] != scenes[others * INTS_EACH + i]) {
                    return false;
                }
            }
            return true;
        }
    }

    /** Who may have been there by what was seen of one thing: things don't touch one another, so it goes alone. */
    private static final class Search {
        private static final int NOBODYS_BIT = 128, NOTES = 1024, LEVELS = TOP_LEVEL + 1;

        final House house;
        private final int[] seen = new int[SEEN_THAT_COUNT];
        private final int[] may = new int[SEEN_THAT_COUNT];
        private final int[] found = new int[MOST_GUESTS];
        private final int[] notes = new int[NOTES];
        int nights;
        private int nightsToSearch;
        private int thing;
        private int height;
        private int written;
        private int believedAhead;

        Search(House house) {
            this.house = house;
        }

        void start(Shelf shelf, Scene now, int ofThing) {
            nights = Math.min(shelf.length, SEEN_THAT_COUNT);
            nightsToSearch = 0;
            for (int i = 0; i < nights; i++) {
                seen[i] = shelf.numberAt(i);
                may[i] = 0;
                if (seen[i] != UNSEEN) {
                    nightsToSearch = i + 1;
                }
            }
            thing = ofThing;
            height = now.levels[thing];
            written = now.books[thing];
            believedAhead = now.ahead[thing];
            for (int guest = 0; guest < MOST_GUESTS; guest++) {
                found[guest] = now.found[guest * THINGS + thing];
            }
            for (int i = 0; i < NOTES; i++) {
                notes[i] = 0;
            }
        }

        /** Behind the last night that was seen anybody may come. */
        int countWays() {
            int all = explore(0);
            for (int i = nightsToSearch; i < nights; i++) {
                all *= house.guests + 1;
            }
            return all;
        }

        int mayHaveBeen(int night) {
            if (explore(0) == 0) {
                return 0;
            }
            return night < nightsToSearch ? may[night] : ((1 << house.guests) - 1) | NOBODYS_BIT;
        }

        /** How many rows of guests from this night on agree with what was seen. */
        private int explore(int night) {
            if (night >= nightsToSearch) {
                return 1;
            }
            int all = 0;
            int heightBefore = height;
            int writtenBefore = written;
            int aheadBefore = believedAhead;
            for (int guest = 0; guest <= house.guests; guest++) {
                boolean comes = guest < house.guests;
                int foundBefore = comes ? found[guest] : NEVER;
                if (comes) {
                    spendNight(guest);
                }
                if (seen[night] == UNSEEN || seen[night] == height) {
                    int behind = explore(night + 1);
                    all += behind;
                    if (behind > 0) {
                        may[night] |= comes ? 1 << guest : NOBODYS_BIT;
                    }
                }
                height = heightBefore;
                written = writtenBefore;
                believedAhead = aheadBefore;
                if (comes) {
                    found[guest] = foundBefore;
                }
            }
            return all;
        }

        private void spendNight(int guest) {
            if (found[guest] == NEVER) {
                found[guest] = height;
            }
            believedAhead = house.believed(guest, thing, found[guest], written, believedAhead);
            height = levelNoted(guest, height, believedAhead);
            if (house.writesBook(guest)) {
                written = height;
            }
        }

        /** The same nights come up by the thousand: each is worked out once and noted as its key and level. */
        private int levelNoted(int guest, int f, int o) {
            int key = (guest * LEVELS + f) * LEVELS + o + 1;
            int place = (guest * 131 + f * 17 + o) & (NOTES - 1);
            if (notes[place] / LEVELS == key) {
                return notes[place] % LEVELS;
            }
            int after = house.levelAfter(guest, thing, f, o);
            notes[place] = key * LEVELS + after;
            return after;
        }
    }
}
