/** Whose glass is this: places, guests and glasses, as ../shared/DOC.md promises. */
public final class WhoseGlass {

    private static final int PLACES = 6;
    private static final int MOST_GLASSES = 12;
    private static final int MOST_GUESTS = 6;
    private static final int TRAY_AT_FIRST = 20;
    private static final int BRIMFUL = 9;
    private static final int REFILL_BELOW = 5;
    private static final int LAST_MINUTE = 999;
    private static final int LONGEST_GOING = 99;
    private static final int LONGEST_IN_MIND = 60;
    private static final int MOST_CARE = 9;
    private static final int MOST_FIGURE = 9;
    private static final int MOST_DRAWN_MINUTES = 30;
    // Written out: of Integer's own constants ../shared/LANGUAGE.md lists none.
    private static final int ALL_BUT_SIGN = 0x7fffffff;
    private static final int LEAST_INT = 0x80000000;

    private static final int GLASS = 0;
    private static final int MARKED = 1;
    private static final int TALL = 2;
    private static final int RED = 3;
    private static final int WATER = 4;
    private static final int OWL = 5;
    private static final int CHIPPED = 6;
    private static final int POURED = 7;
    private static final int KINDS = 8;

    // Where a glass is: below PLACES it is laid there, in hands it is HANDS and the guest.
    private static final int HANDS = 10;
    private static final int SINK = 20;

    private static final int SHELVES = 8;
    private static final int MOST_ELEMENTS = 100;
    private static final int EMPTY_SHELF = 0;
    private static final int GLASS_SHELF = 1;
    private static final int ROW_SHELF = 2;
    private static final int BYTES = 0;
    private static final int SHORTS = 1;
    private static final int INTS = 2;

    private static final int NOT_AS_TOLD = -1;
    private static final int NO_ROOM = -2;
    private static final int NOT_NOW = -3;
    private static final int NONE = -4;
    private static final int NOTHING_HELD = -11;
    private static final int OTHER_KIND = -12;
    private static final int NO_SUCH_PLACE = -13;
    private static final int SIZE_BELOW_ZERO = -14;
    private static final int NO_FAILURE = -15;
    private static final int FAULT_KIND = 1000;

    private final House now = new House();
    // What is thought through happens here, so that no call in mind makes objects.
    private final House mind = new House();
    private final House picture = new House();
    private boolean pictured;
    private final Shelf[] shelves = new Shelf[SHELVES];

    public WhoseGlass() {
        for (int d = 0; d < SHELVES; d++) {
            shelves[d] = new Shelf();
        }
    }

    // ---- houses

    public int house(int d) {
        Shelf shelf = shelfAt(d);
        if (shelf == null) {
            return NOT_AS_TOLD;
        }
        if (shelf.content != ROW_SHELF || shelf.sort != BYTES) {
            return shelf.whyNot();
        }
        int broken = HouseText.breakIn(shelf);
        if (broken != NONE) {
            return -FAULT_KIND - broken;
        }
        mind.become(now);
        int undone = HouseText.build(shelf, mind);
        if (undone != NONE) {
            return -2 * FAULT_KIND - undone;
        }
        now.become(mind);
        return HouseText.statementsIn(shelf);
    }

    public int glass(int glass, int what) {
        Glass asked = now.glassAt(glass);
        return asked == null ? NOT_AS_TOLD : asked.told(what);
    }

    public int guest(int guest, int what) {
        Guest asked = now.guestAt(guest);
        return asked == null ? NOT_AS_TOLD : asked.told(what);
    }

    public int comes(int d, int place) {
        Shelf shelf = shelfAt(d);
        if (shelf == null || !isBelow(place, PLACES)) {
            return NOT_AS_TOLD;
        }
        if (shelf.content != GLASS_SHELF) {
            return shelf.whyNot();
        }
        Glass come = now.addGlass(shelf.kind, shelf.figure, BRIMFUL);
        if (come == null) {
            return NO_ROOM;
        }
        come.layAt(place, now.minute);
        return come.number;
    }

    public int go(int guest, int place) {
        Guest goer = now.guestAt(guest);
        if (goer == null || !isBelow(place, PLACES)) {
            return NOT_AS_TOLD;
        }
        int was = goer.place;
        goer.place = place;
        return was;
    }

    public int sip(int guest) {
        Guest sipper = now.guestAt(guest);
        if (sipper == null) {
            return NOT_AS_TOLD;
        }
        Glass held = now.glassAt(sipper.holds);
        if (held == null || held.fill <= 0) {
            return NOT_NOW;
        }
        return sipper.sipFrom(held);
    }

    public int lay(int guest) {
        Guest layer = now.guestAt(guest);
        if (layer == null) {
            return NOT_AS_TOLD;
        }
        Glass held = now.glassAt(layer.holds);
        if (held == null) {
            return NOT_NOW;
        }
        now.layDown(layer, held);
        return held.number;
    }

    public int take(int guest) {
        Guest taker = now.guestAt(guest);
        if (taker == null) {
            return NOT_AS_TOLD;
        }
        return taker.holds == NONE ? now.takeUp(taker) : NOT_NOW;
    }

    public int fill(int place) {
        if (!isBelow(place, PLACES)) {
            return NOT_AS_TOLD;
        }
        int filled = 0;
        for (int i = 0; i < now.glassCount; i++) {
            Glass glass = now.glassAt(i);
            if (glass != null && glass.where == place && glass.fill < REFILL_BELOW) {
                glass.fill = BRIMFUL;
                filled++;
            }
        }
        return filled;
    }

    public int clear(int place, int m) {
        if (!isBelow(place, PLACES) || m < 0 || m > LONGEST_GOING) {
            return NOT_AS_TOLD;
        }
        int cleared = 0;
        for (int i = 0; i < now.glassCount; i++) {
            Glass glass = now.glassAt(i);
            if (glass != null && glass.where == place && now.minute - glass.laid >= m) {
                glass.sink();
                cleared++;
            }
        }
        return cleared;
    }

    public int minutes(int n) {
        if (n < 1 || n > LONGEST_GOING) {
            return NOT_AS_TOLD;
        }
        if (now.minute + n > LAST_MINUTE) {
            return NO_ROOM;
        }
        now.passMinutes(n);
        return now.minute;
    }

    public int like(int glass, int other) {
        Glass first = now.glassAt(glass);
        Glass second = now.glassAt(other);
        return first == null || second == null ? NOT_AS_TOLD : first.likeTo(second);
    }

    // ---- what one would take, who sipped

    public int mine(int guest) {
        Guest taker = now.guestAt(guest);
        return taker == null ? NOT_AS_TOLD : now.choiceOf(taker);
    }

    public int likely(int guest, int glass, int part) {
        Guest taker = now.guestAt(guest);
        Glass wanted = now.glassAt(glass);
        if (taker == null || wanted == null || !isBelow(part, 2)) {
            return NOT_AS_TOLD;
        }
        Glass own = now.glassAt(taker.own);
        if (own == null || wanted.where != taker.place) {
            return NOT_NOW;
        }
        int above = own.likeTo(wanted);
        int below = now.likeToAllAt(own, taker.place);
        if (below == 0) {
            return part;
        }
        return part == 0 ? reduced(above, below) : reduced(below, above);
    }

    public int idle(int place) {
        return isBelow(place, PLACES) ? now.idleAt(place) : NOT_AS_TOLD;
    }

    public int oldest(int place) {
        return isBelow(place, PLACES) ? now.oldestAt(place) : NOT_AS_TOLD;
    }

    // ---- minutes to come

    public int mistakes(int n) {
        return isSpan(n) ? ahead(n).mistakes : NOT_AS_TOLD;
    }

    public int fresh(int n) {
        return isSpan(n) ? ahead(n).fresh : NOT_AS_TOLD;
    }

    public int colds(int n) {
        return isSpan(n) ? ahead(n).coldBits() : NOT_AS_TOLD;
    }

    public int had(int guest, int n) {
        if (now.guestAt(guest) == null || !isSpan(n)) {
            return NOT_AS_TOLD;
        }
        Guest then = ahead(n).guestAt(guest);
        return then == null ? NOT_AS_TOLD : then.had;
    }

    public int where(int glass, int n) {
        if (now.glassAt(glass) == null || !isSpan(n)) {
            return NOT_AS_TOLD;
        }
        Glass then = ahead(n).glassAt(glass);
        return then == null ? NOT_AS_TOLD : then.where;
    }

    public int brought(int told, int n) {
        if (!isBelow(told, 1 << now.guestCount) || !isSpan(n)) {
            return NOT_AS_TOLD;
        }
        int bits = 0;
        for (int i = 0; i < now.guestCount; i++) {
            if (coldsBroughtBy(i, n) == told) {
                bits |= 1 << i;
            }
        }
        return bits;
    }

    public int particular(int n) {
        if (!isSpan(n)) {
            return NOT_AS_TOLD;
        }
        // A cold never goes away, so the same bits mean that no guest more has one.
        int bits = now.coldBits();
        for (int care = 0; care <= MOST_CARE; care++) {
            if (coldsByCare(care, n) == bits) {
                return care;
            }
        }
        return NONE;
    }

    public int mark(int n) {
        if (!isSpan(n)) {
            return NOT_AS_TOLD;
        }
        int fewest = ahead(n).mistakes;
        int best = NONE;
        for (int i = 0; i < now.glassCount; i++) {
            int made = mistakesIfMarked(i, n);
            if (made < fewest) {
                fewest = made;
                best = i;
            }
        }
        return best;
    }

    public int close(int n) {
        if (!isSpan(n)) {
            return NOT_AS_TOLD;
        }
        int fewest = ahead(n).fresh;
        int best = NONE;
        for (int place = 0; place < PLACES; place++) {
            int taken = freshIfLeftOut(place, n);
            if (taken < fewest) {
                fewest = taken;
                best = place;
            }
        }
        return best;
    }

    public int driver(int n) {
        return isSpan(n) ? ahead(n).soberest() : NOT_AS_TOLD;
    }

    public int full() {
        mind.become(now);
        for (int n = 0; n <= LONGEST_IN_MIND; n++) {
            if (!mind.hasEmptyGlass()) {
                return n;
            }
            mind.passMinutes(1);
        }
        return NONE;
    }

    // ---- seeds, told places

    public int seeded(int n, int z, int what) {
        if (n < 1 || n > MOST_DRAWN_MINUTES || !isBelow(what, 2)) {
            return NOT_AS_TOLD;
        }
        if (now.guestCount == 0) {
            return NOT_NOW;
        }
        mind.become(now);
        int seed = z;
        for (int k = 0; k < n; k++) {
            seed = mind.scatter(seed);
            mind.passMinutes(1);
        }
        return what == 0 ? mind.mistakes : mind.fresh;
    }

    public int judge(int glass, int d) {
        Shelf shelf = shelfAt(d);
        if (now.glassAt(glass) == null || shelf == null) {
            return NOT_AS_TOLD;
        }
        if (shelf.content != ROW_SHELF) {
            return shelf.whyNot();
        }
        mind.become(now);
        Glass followed = mind.glassAt(glass);
        for (int i = 0; i < shelf.size && followed != null; i++) {
            int told = shelf.elementAt(i);
            if (told != shelf.leastNumber() && told != followed.where) {
                return i;
            }
            mind.passMinutes(1);
        }
        return NONE;
    }

    // ---- the image, what is told

    public int image() {
        picture.become(now);
        pictured = true;
        return now.minute;
    }

    public int restore() {
        if (!pictured) {
            return NOT_NOW;
        }
        now.become(picture);
        return now.minute;
    }

    public int count(int what) {
        switch (what) {
            case 0:
                return now.glassCount;
            case 1:
                return now.guestCount;
            case 2:
                return now.tray;
            case 3:
                return now.minute;
            case 4:
                return now.allFills();
            case 5:
                return now.coldBits();
            case 6:
                return now.countInSink();
            default:
                return NOT_AS_TOLD;
        }
    }

    // ---- shelves

    public int keep(int d, int what, int k, int figure) {
        Shelf shelf = shelfAt(d);
        if (shelf == null) {
            return NOT_AS_TOLD;
        }
        if (what == 0) {
            shelf.content = EMPTY_SHELF;
            return 0;
        }
        if (what != 1 || !isBelow(k, KINDS) || figure < 0 || figure > MOST_FIGURE) {
            return NOT_AS_TOLD;
        }
        shelf.content = GLASS_SHELF;
        shelf.kind = k;
        shelf.figure = figure;
        return 0;
    }

    public int row(int d, int sort, int n) {
        Shelf shelf = shelfAt(d);
        if (shelf == null || sort < BYTES || sort > INTS || n > MOST_ELEMENTS) {
            return NOT_AS_TOLD;
        }
        if (n < 0) {
            return SIZE_BELOW_ZERO;
        }
        shelf.beginRow(sort, n);
        return 0;
    }

    public int put(int d, int i, int v) {
        Shelf shelf = shelfAt(d);
        if (shelf == null) {
            return NOT_AS_TOLD;
        }
        if (shelf.content != ROW_SHELF) {
            return shelf.whyNot();
        }
        if (!isBelow(i, shelf.size)) {
            return NO_SUCH_PLACE;
        }
        shelf.set(i, v);
        return 0;
    }

    public long element(int d, int i) throws IllegalArgumentException, IllegalStateException {
        Shelf shelf = shelfAt(d);
        if (shelf == null) {
            throw new IllegalArgumentException("no such shelf");
        }
        if (shelf.content != ROW_SHELF || !isBelow(i, shelf.size)) {
            throw new IllegalStateException("no row, or no such place in it");
        }
        return shelf.elementAt(i);
    }

    public int copy(int d, int i, int e, int j, int n) {
        Shelf from = shelfAt(d);
        Shelf to = shelfAt(e);
        if (from == null || to == null) {
            return NOT_AS_TOLD;
        }
        if (from.content == EMPTY_SHELF || to.content == EMPTY_SHELF) {
            return NOTHING_HELD;
        }
        if (from.content != ROW_SHELF || to.content != ROW_SHELF || from.sort != to.sort) {
            return OTHER_KIND;
        }
        if (!from.hasStretch(i, n) || !to.hasStretch(j, n)) {
            return NO_SUCH_PLACE;
        }
        System.arraycopy(from.elements, i, to.elements, j, n);
        return n;
    }

    public int cost(int d) {
        Shelf shelf = shelfAt(d);
        if (shelf == null) {
            return NOT_AS_TOLD;
        }
        return shelf.content == GLASS_SHELF ? shelf.glassCost() : shelf.whyNot();
    }

    public int toss(int d) {
        Shelf shelf = shelfAt(d);
        if (shelf == null) {
            return NOT_AS_TOLD;
        }
        if (shelf.content != GLASS_SHELF) {
            return shelf.whyNot();
        }
        try {
            shelf.throwFailure();
            return NO_FAILURE;
        } catch (UnsupportedOperationException ofOwl) {
            return 200 + shelf.glassCost();
        } catch (IllegalStateException ofRed) {
            return 100 + shelf.figure;
        } catch (IllegalArgumentException ofAnother) {
            return shelf.figure;
        }
    }

    private Shelf shelfAt(int d) {
        return d >= 0 && d < shelves.length ? shelves[d] : null;
    }

    private static boolean isBelow(int number, int bound) {
        return number >= 0 && number < bound;
    }

    private static boolean isSpan(int n) {
        return n >= 0 && n <= LONGEST_IN_MIND;
    }

    private static boolean isMultiple(int t, int of) {
        return of > 0 && t % of == 0;
    }

    private static int reduced(int number, int other) {
        for (int divisor = Math.max(number, other); divisor > 1; divisor--) {
            if (number % divisor == 0 && other % divisor == 0) {
                return number / divisor;
            }
        }
        return number;
    }

    private House ahead(int n) {
        mind.become(now);
        mind.passMinutes(n);
        return mind;
    }

    private int coldsBroughtBy(int guest, int n) {
        mind.become(now);
        mind.leaveColdTo(guest);
        mind.passMinutes(n);
        return mind.coldBits();
    }

    private int coldsByCare(int care, int n) {
        mind.become(now);
        mind.careAlike(care);
        mind.passMinutes(n);
        return mind.coldBits();
    }

    private int mistakesIfMarked(int glass, int n) {
        mind.become(now);
        Glass marked = mind.glassAt(glass);
        if (marked != null) {
            marked.kind = MARKED;
        }
        mind.passMinutes(n);
        return mind.mistakes;
    }

    private int freshIfLeftOut(int place, int n) {
        mind.become(now);
        mind.leftOut = place;
        mind.passMinutes(n);
        return mind.fresh;
    }

    private static final class Glass {
        final int number;
        int kind;
        int figure;
        int fill;
        int where;
        int laid;
        int sippedBy;
        boolean germs;

        Glass(int number) {
            this.number = number;
        }

        void begin(int newKind, int newFigure, int newFill) {
            kind = newKind;
            figure = newFigure;
            fill = newFill;
            sippedBy = 0;
            germs = false;
        }

        void become(Glass other) {
            kind = other.kind;
            figure = other.figure;
            fill = other.fill;
            where = other.where;
            laid = other.laid;
            sippedBy = other.sippedBy;
            germs = other.germs;
        }

        void layAt(int place, int minute) {
            where = place;
            laid = minute;
        }

        void sink() {
            where = SINK;
            fill = 0;
            sippedBy = 0;
            germs = false;
        }

        boolean isLaid() {
            return where < PLACES;
        }

        int told(int what) {
            switch (what) {
                case 0:
                    return kind;
                case 1:
                    return figure;
                case 2:
                    return fill;
                case 3:
                    return where;
                case 4:
                    return sippedBy;
                case 5:
                    return germs ? 1 : 0;
                case 6:
                    return isLaid() ? laid : NONE;
                default:
                    return NOT_AS_TOLD;
            }
        }

        int likeTo(Glass other) {
            // By numbers, for a house in mind holds other objects for the same glasses.
            boolean same = number == other.number;
            int plain = figure == other.figure ? 3 : 1;
            boolean toTall = other.kind == TALL || other.kind == WATER;
            boolean toRed = other.kind == RED || other.kind == CHIPPED || other.kind == POURED;
            int tall = toTall ? plain + 3 : plain;
            int red = toRed ? plain + 4 : plain;
            int marked = same ? 20 : 0;
            switch (kind) {
                case MARKED:
                    return marked;
                case TALL:
                    return tall;
                case RED:
                    return red;
                case WATER:
                    return other.kind == WATER ? tall + 1 : tall;
                case OWL:
                    return other.kind == OWL && !same ? 5 : marked;
                case CHIPPED:
                    return same ? 2 * red : red;
                case POURED:
                    return other.fill == 0 ? 0 : red;
                default:
                    return plain;
            }
        }

        int strength() {
            switch (kind) {
                case TALL:
                    return 1;
                case RED:
                    return 2 + figure;
                case WATER:
                    return 0;
                case CHIPPED:
                    return fill % 2 == 0 ? 2 + figure : 0;
                case POURED:
                    return 3 + figure;
                default:
                    return 2;
            }
        }
    }

    private static final class Guest {
        final int number;
        int pace;
        int lays;
        int step;
        int care;
        int place;
        int holds;
        int own;
        int had;
        boolean cold;

        Guest(int number) {
            this.number = number;
        }

        void begin(int newPace, int newLays, int newStep, int newCare, int newPlace) {
            pace = newPace;
            lays = newLays;
            step = newStep;
            care = newCare;
            place = newPlace;
            holds = NONE;
            own = NONE;
            had = 0;
            cold = false;
        }

        void become(Guest other) {
            pace = other.pace;
            lays = other.lays;
            step = other.step;
            care = other.care;
            place = other.place;
            holds = other.holds;
            own = other.own;
            had = other.had;
            cold = other.cold;
        }

        int told(int what) {
            switch (what) {
                case 0:
                    return pace;
                case 1:
                    return lays;
                case 2:
                    return step;
                case 3:
                    return care;
                case 4:
                    return place;
                case 5:
                    return holds;
                case 6:
                    return own;
                case 7:
                    return had;
                case 8:
                    return cold ? 1 : 0;
                default:
                    return NOT_AS_TOLD;
            }
        }

        void hold(Glass glass) {
            holds = glass.number;
            own = glass.number;
            glass.where = HANDS + number;
        }

        int sipFrom(Glass glass) {
            int strength = glass.strength();
            glass.fill--;
            had += strength;
            glass.sippedBy |= 1 << number;
            cold = cold || glass.germs;
            glass.germs = cold;
            return strength;
        }
    }

    private static final class House {
        private final Glass[] glasses = new Glass[MOST_GLASSES];
        private final Guest[] guests = new Guest[MOST_GUESTS];
        int glassCount;
        int guestCount;
        int tray = TRAY_AT_FIRST;
        int minute;
        // Counted since this house became as another one.
        int mistakes;
        int fresh;
        int leftOut = NONE;

        House() {
            for (int i = 0; i < MOST_GLASSES; i++) {
                glasses[i] = new Glass(i);
            }
            for (int i = 0; i < MOST_GUESTS; i++) {
                guests[i] = new Guest(i);
            }
        }

        void become(House other) {
            glassCount = other.glassCount;
            guestCount = other.guestCount;
            tray = other.tray;
            minute = other.minute;
            mistakes = 0;
            fresh = 0;
            leftOut = NONE;
            for (int i = 0; i < glassCount; i++) {
                Glass to = glassAt(i);
                Glass from = other.glassAt(i);
                if (to != null && from != null) {
                    to.become(from);
                }
            }
            for (int i = 0; i < guestCount; i++) {
                Guest to = guestAt(i);
                Guest from = other.guestAt(i);
                if (to != null && from != null) {
                    to.become(from);
                }
            }
        }

        Glass glassAt(int i) {
            return i >= 0 && i < glassCount && i < glasses.length ? glasses[i] : null;
        }

        Guest guestAt(int i) {
            return i >= 0 && i < guestCount && i < guests.length ? guests[i] : null;
        }

        Glass addGlass(int kind, int figure, int fill) {
            if (glassCount >= MOST_GLASSES) {
                return null;
            }
            glassCount++;
            Glass added = glassAt(glassCount - 1);
            if (added != null) {
                added.begin(kind, figure, fill);
            }
            return added;
        }

        Guest addGuest(int pace, int lays, int step, int care, int place) {
            if (guestCount >= MOST_GUESTS) {
                return null;
            }
            guestCount++;
            Guest added = guestAt(guestCount - 1);
            if (added != null) {
                added.begin(pace, lays, step, care, place);
            }
            return added;
        }

        void passMinutes(int n) {
            for (int k = 0; k < n; k++) {
                for (int i = 0; i < guestCount; i++) {
                    Guest guest = guestAt(i);
                    if (guest != null) {
                        liveMinute(guest);
                    }
                }
                minute++;
            }
        }

        private void liveMinute(Guest guest) {
            if (minute != 0 && isMultiple(minute, guest.step)) {
                guest.place = placeBehind(guest.place);
            }
            Glass held = glassAt(guest.holds);
            if (held == null) {
                takeUp(guest);
                return;
            }
            if (isMultiple(minute, guest.pace) && held.fill > 0) {
                guest.sipFrom(held);
            }
            if (minute != 0 && isMultiple(minute, guest.lays)) {
                layDown(guest, held);
            }
        }

        private int placeBehind(int place) {
            int next = (place + 1) % PLACES;
            return next == leftOut ? (next + 1) % PLACES : next;
        }

        void layDown(Guest guest, Glass held) {
            held.layAt(guest.place, minute);
            guest.holds = NONE;
        }

        int takeUp(Guest guest) {
            Glass choice = glassAt(choiceOf(guest));
            if (choice != null) {
                if (choice.number != guest.own) {
                    mistakes++;
                }
                guest.hold(choice);
                return choice.number;
            }
            Glass taken = tray > 0 ? addGlass(GLASS, (tray - 1) % 10, BRIMFUL) : null;
            if (taken == null) {
                return NONE;
            }
            tray--;
            fresh++;
            guest.hold(taken);
            return taken.number;
        }

        /** The glass laid there that the guest would take, NONE if it would turn to the tray. */
        int choiceOf(Guest guest) {
            Glass own = glassAt(guest.own);
            if (own == null || own.where == SINK) {
                return NONE;
            }
            Glass best = null;
            int most = 0;
            for (int i = 0; i < glassCount; i++) {
                Glass glass = glassAt(i);
                if (glass == null || glass.where != guest.place) {
                    continue;
                }
                int like = own.likeTo(glass);
                boolean later = best != null && like == most && glass.laid > best.laid;
                if (like > most || later) {
                    best = glass;
                    most = like;
                }
            }
            return best == null || most < guest.care ? NONE : best.number;
        }

        int likeToAllAt(Glass own, int place) {
            int sum = 0;
            for (int i = 0; i < glassCount; i++) {
                Glass glass = glassAt(i);
                if (glass != null && glass.where == place) {
                    sum += own.likeTo(glass);
                }
            }
            return sum;
        }

        int idleAt(int place) {
            int idle = 0;
            for (int i = 0; i < glassCount; i++) {
                Glass glass = glassAt(i);
                if (glass != null && glass.where == place && !isOwned(i)) {
                    idle++;
                }
            }
            return idle;
        }

        private boolean isOwned(int glass) {
            for (int i = 0; i < guestCount; i++) {
                Guest guest = guestAt(i);
                if (guest != null && guest.own == glass) {
                    return true;
                }
            }
            return false;
        }

        int oldestAt(int place) {
            Glass oldest = null;
            for (int i = 0; i < glassCount; i++) {
                Glass glass = glassAt(i);
                if (glass == null || glass.where != place) {
                    continue;
                }
                if (oldest == null || glass.laid < oldest.laid) {
                    oldest = glass;
                }
            }
            return oldest == null ? NONE : oldest.number;
        }

        int coldBits() {
            int bits = 0;
            for (int i = 0; i < guestCount; i++) {
                Guest guest = guestAt(i);
                if (guest != null && guest.cold) {
                    bits |= 1 << i;
                }
            }
            return bits;
        }

        void leaveColdTo(int only) {
            for (int i = 0; i < glassCount; i++) {
                Glass glass = glassAt(i);
                if (glass != null) {
                    glass.germs = false;
                }
            }
            for (int i = 0; i < guestCount; i++) {
                Guest guest = guestAt(i);
                if (guest != null) {
                    guest.cold = i == only;
                }
            }
        }

        void careAlike(int care) {
            for (int i = 0; i < guestCount; i++) {
                Guest guest = guestAt(i);
                if (guest != null) {
                    guest.care = care;
                }
            }
        }

        int soberest() {
            Guest best = null;
            for (int i = 0; i < guestCount; i++) {
                Guest guest = guestAt(i);
                if (guest != null && (best == null || guest.had < best.had)) {
                    best = guest;
                }
            }
            return best == null ? NONE : best.number;
        }

        boolean hasEmptyGlass() {
            for (int i = 0; i < glassCount; i++) {
                Glass glass = glassAt(i);
                if (glass != null && glass.where != SINK && glass.fill == 0) {
                    return true;
                }
            }
            return false;
        }

        /** Sends each guest to a drawn place and answers the seed that is left. */
        int scatter(int seed) {
            int z = seed;
            for (int i = 0; i < guestCount; i++) {
                Guest guest = guestAt(i);
                z = z * 1103515245 + 12345;
                if (guest != null) {
                    guest.place = (z & ALL_BUT_SIGN) / 65536 % PLACES;
                }
            }
            return z;
        }

        int allFills() {
            int sum = 0;
            for (int i = 0; i < glassCount; i++) {
                Glass glass = glassAt(i);
                if (glass != null) {
                    sum += glass.fill;
                }
            }
            return sum;
        }

        int countInSink() {
            int sunk = 0;
            for (int i = 0; i < glassCount; i++) {
                Glass glass = glassAt(i);
                if (glass != null && glass.where == SINK) {
                    sunk++;
                }
            }
            return sunk;
        }
    }

    /** Reads houses: the form of the whole text first, for its faults go ahead of the others. */
    private static final class HouseText {
        private static final int NO_LETTER = -1;

        /** The place of the first byte with which no house can go on, or NONE. */
        static int breakIn(Shelf text) {
            int at = 0;
            for (int turn = 0; turn <= text.size; turn++) {
                int end = digitsEnd(text, at);
                if (!isWhole(text, at, end)) {
                    return end;
                }
                at = end + 1;
                if (at >= text.size) {
                    return NONE;
                }
            }
            return NONE;
        }

        private static boolean isWhole(Shelf text, int at, int end) {
            return end > at
                    && end - at - 1 >= leastDigits(text.elementAt(at))
                    && isAt(text, end, ';');
        }

        /** The place of the letter of the first statement that can't be done, or NONE. */
        static int build(Shelf text, House house) {
            int at = 0;
            for (int turn = 0; turn < text.size && at < text.size; turn++) {
                // Done right here, for calls may go eight deep alone and a minute takes most of that.
                if (isAt(text, at, 'm') && house.minute < LAST_MINUTE) {
                    house.passMinutes(1);
                } else if (!obeys(house, text, at)) {
                    return at;
                }
                at = digitsEnd(text, at) + 1;
            }
            return NONE;
        }

        static int statementsIn(Shelf text) {
            int statements = 0;
            for (int at = 0; at < text.size; at++) {
                if (isAt(text, at, ';')) {
                    statements++;
                }
            }
            return statements;
        }

        /** The place behind a letter and its digits; the letter's own place if it is none. */
        private static int digitsEnd(Shelf text, int at) {
            int most = at < text.size ? mostDigits(text.elementAt(at)) : NO_LETTER;
            if (most == NO_LETTER) {
                return at;
            }
            int digits = 0;
            while (digits < most && isDigit(text, at + 1 + digits)) {
                digits++;
            }
            return at + 1 + digits;
        }

        private static boolean isAt(Shelf text, int at, char sign) {
            return at < text.size && text.elementAt(at) == sign;
        }

        private static boolean isDigit(Shelf text, int at) {
            return at < text.size && text.elementAt(at) >= '0' && text.elementAt(at) <= '9';
        }

        private static int leastDigits(int letter) {
            return letter == 't' ? 1 : mostDigits(letter);
        }

        private static int mostDigits(int letter) {
            switch (letter) {
                case 'g':
                    return 4;
                case 'p':
                    return 5;
                case 'h':
                    return 3;
                case 'c':
                    return 1;
                case 't':
                    return 2;
                case 'm':
                    return 0;
                default:
                    return NO_LETTER;
            }
        }

        private static int digit(Shelf text, int at) {
            return text.elementAt(at) - '0';
        }

        private static boolean obeys(House house, Shelf text, int at) {
            switch (text.elementAt(at)) {
                case 'g':
                    return glassStands(text, at, house);
                case 'p':
                    return guestEnters(text, at, house);
                case 'h':
                    return guestHolds(text, at, house);
                case 'c':
                    return coldTurns(text, at, house);
                case 't':
                    setTray(text, at, house);
                    return true;
                default:
                    return false;
            }
        }

        private static boolean glassStands(Shelf text, int at, House house) {
            int kind = digit(text, at + 1);
            int place = digit(text, at + 4);
            if (!isBelow(kind, KINDS) || !isBelow(place, PLACES)) {
                return false;
            }
            Glass added = house.addGlass(kind, digit(text, at + 2), digit(text, at + 3));
            if (added == null) {
                return false;
            }
            added.layAt(place, house.minute);
            return true;
        }

        private static boolean guestEnters(Shelf text, int at, House house) {
            int pace = digit(text, at + 1);
            int lays = digit(text, at + 2);
            int place = digit(text, at + 5);
            if (pace < 1 || lays < 1 || !isBelow(place, PLACES)) {
                return false;
            }
            int step = digit(text, at + 3);
            int care = digit(text, at + 4);
            return house.addGuest(pace, lays, step, care, place) != null;
        }

        private static boolean guestHolds(Shelf text, int at, House house) {
            Guest guest = house.guestAt(digit(text, at + 1));
            Glass glass = house.glassAt(10 * digit(text, at + 2) + digit(text, at + 3));
            if (guest == null || glass == null || guest.holds != NONE || !glass.isLaid()) {
                return false;
            }
            guest.hold(glass);
            return true;
        }

        private static boolean coldTurns(Shelf text, int at, House house) {
            Guest guest = house.guestAt(digit(text, at + 1));
            if (guest == null) {
                return false;
            }
            guest.cold = !guest.cold;
            return true;
        }

        private static void setTray(Shelf text, int at, House house) {
            int first = digit(text, at + 1);
            boolean oneDigit = isAt(text, at + 2, ';');
            house.tray = oneDigit ? first : 10 * first + digit(text, at + 2);
        }
    }

    private static final class Shelf {
        int content = EMPTY_SHELF;
        int kind;
        int figure;
        int sort;
        int size;
        final int[] elements = new int[MOST_ELEMENTS];

        int whyNot() {
            return content == EMPTY_SHELF ? NOTHING_HELD : OTHER_KIND;
        }

        void beginRow(int newSort, int newSize) {
            content = ROW_SHELF;
            sort = newSort;
            size = newSize;
            for (int i = 0; i < elements.length; i++) {
                elements[i] = 0;
            }
        }

        int elementAt(int i) {
            return i >= 0 && i < elements.length ? elements[i] : 0;
        }

        void set(int i, int v) {
            if (i >= 0 && i < elements.length) {
                elements[i] = lowestBits(v);
            }
        }

        private int lowestBits(int v) {
            switch (sort) {
                case BYTES:
                    return (byte) v;
                case SHORTS:
                    return (short) v;
                default:
                    return v;
            }
        }

        int leastNumber() {
            switch (sort) {
                case BYTES:
                    return -128;
                case SHORTS:
                    return -32768;
                default:
                    return LEAST_INT;
            }
        }

        // Subtracted, not added: the sum of two large numbers would wrap round.
        boolean hasStretch(int from, int n) {
            return from >= 0 && n >= 0 && from <= size && n <= size - from;
        }

        int glassCost() {
            switch (kind) {
                case MARKED:
                    return 2 + figure;
                case TALL:
                    return 3;
                case RED:
                    return 4;
                case WATER:
                    return 6;
                case OWL:
                    return 11 + figure;
                case CHIPPED:
                    return 3;
                case POURED:
                    return 4 * (figure + 1);
                default:
                    return 2;
            }
        }

        void throwFailure() {
            if (kind == WATER || figure == 0) {
                return;
            }
            if (kind == OWL) {
                throw new UnsupportedOperationException("an owl's");
            }
            if (kind == RED) {
                throw new IllegalStateException("a red one's");
            }
            throw new IllegalArgumentException("a glass's");
        }
    }
}
