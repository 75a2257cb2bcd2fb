import java.util.Arrays;

/** The slate of a hotel's boots: who wants to be woken before whom, and which rounds keep it. */
public final class BootsAtDawn {
    public static final int BAD = -1, NO = -2, FULL = -3, NONE = -4;

    private static final int MOST_LETTERS = 200;
    private static final int MOST_GUESTS = 6;
    private static final int MOST_WISHES = 9;
    private static final int MOST_ROUNDS = 720;
    private static final int MOST_UNDONE = 8;
    private static final int MOST_WOKEN = 6;
    private static final int MOST_KEPT = 2;
    private static final int TOP_FLOOR = 9;
    private static final int FIRST_LETTER = 32, LAST_LETTER = 126;
    private static final int LAST_Z = 9999, MOST_DAWNS = 40;

    private static final int HEAVY = 1, LIGHT = 2, DEAF = 3;
    private static final int BEFORE = 0, JUST_AFTER = 1, FIRST = 2, NOT_SOONER = 3, NOT_LATER = 4;

    private static final String FIRST_TEXT =
        "g0,1;g1,3;g0,2;g2,5;g3,3;b0,1;a2,0;b3,4;n1,12;u3,30;b1,3;s2;";

    private final Text text = new Text();
    private final Slate draft = new Slate();
    private final Reader reader = new Reader(text, draft);
    private final Slate slate = new Slate();
    private final Night tonight = new Night(slate);
    private final Night otherNight = new Night(slate);
    private final Pile undoable = new Pile(MOST_UNDONE);
    private final Pile kept = new Pile(MOST_KEPT);
    private final Mornings mornings = new Mornings();
    private final Survey survey = new Survey();
    private final Survey otherSurvey = new Survey();
    private final int[] endsWithout = new int[MOST_GUESTS];
    private boolean surveyed;

    public BootsAtDawn() {
        for (int i = 0; i < FIRST_TEXT.length(); i++) {
            text.add(FIRST_TEXT.charAt(i));
        }
        layText();
        text.clear();
    }

    // ---- slates

    public int write(int letter) {
        if (letter < FIRST_LETTER || letter > LAST_LETTER) {
            return BAD;
        }
        if (text.isFull()) {
            return FULL;
        }
        text.add((char) letter);
        return text.length;
    }

    public int wipe() {
        int length = text.length;
        text.clear();
        return length;
    }

    public int fault() {
        return reader.readAll();
    }

    public int lay() {
        return layText() ? slate.guests : NO;
    }

    public int guest(int g, int what) {
        if (!slate.isGuest(g)) {
            return BAD;
        }
        switch (what) {
            case 0:
                return at(slate.guestKind, g);
            case 1:
                return at(tonight.floors, g);
            case 2:
                return has(tonight.here, g) ? 1 : 0;
            case 3:
                return tonight.wakingOf(g);
            default:
                return BAD;
        }
    }

    public int wish(int w, int what) {
        if (!slate.isWish(w)) {
            return BAD;
        }
        switch (what) {
            case 0:
                return at(slate.wishKind, w);
            case 1:
                return at(slate.wishA, w);
            case 2:
                return at(slate.wishB, w);
            case 3:
                return tonight.stands(w) ? 1 : 0;
            default:
                return BAD;
        }
    }

    // ---- changes

    public int leave(int g) {
        if (!slate.isGuest(g)) {
            return BAD;
        }
        rememberForUndo();
        tonight.here ^= 1 << g;
        return has(tonight.here, g) ? 1 : 0;
    }

    public int move(int g, int f) {
        if (!slate.isGuest(g) || f < 0 || f > TOP_FLOOR) {
            return BAD;
        }
        int old = at(tonight.floors, g);
        if (old == f) {
            return NO;
        }
        rememberForUndo();
        put(tonight.floors, g, f);
        return old;
    }

    public int strike(int w, boolean out) {
        if (!slate.isWish(w)) {
            return BAD;
        }
        if (has(tonight.struck, w) == out) {
            return NO;
        }
        rememberForUndo();
        tonight.struck ^= 1 << w;
        return Integer.bitCount(tonight.struck);
    }

    public int undo() {
        if (undoable.size < 1) {
            return NO;
        }
        restore(undoable.takeLast());
        return undoable.size;
    }

    // ---- rounds

    public int good(int k) {
        if (k < 0 || k > MOST_GUESTS) {
            return BAD;
        }
        surveyIfChanged();
        if (k == 0) {
            return survey.goodRounds;
        }
        return guestOfGoodRound(survey.firstGood, k);
    }

    public int soonest(int k) {
        if (k < 0 || k > MOST_GUESTS) {
            return BAD;
        }
        surveyIfChanged();
        if (k == 0) {
            return survey.endOrNone();
        }
        return guestOfGoodRound(survey.soonestGood, k);
    }

    public int most(int what) {
        if (what < 0 || what > 1) {
            return BAD;
        }
        surveyIfChanged();
        int set = survey.largestKept();
        return what == 0 ? Integer.bitCount(set) : set;
    }

    public int core() {
        surveyIfChanged();
        return survey.goodRounds > 0 ? NONE : survey.smallestNeverKept();
    }

    public int place(int g, int what) {
        if (!slate.isGuest(g) || what < 0 || what > 1) {
            return BAD;
        }
        surveyIfChanged();
        if (!has(tonight.here, g) || survey.goodRounds == 0) {
            return NONE;
        }
        return at(what == 0 ? survey.earliest : survey.latest, g);
    }

    public int ahead(int a, int b) {
        if (!slate.isGuest(a) || !slate.isGuest(b) || a == b) {
            return BAD;
        }
        surveyIfChanged();
        if (!has(tonight.here, a) || !has(tonight.here, b) || survey.goodRounds == 0) {
            return NONE;
        }
        return has(at(survey.behind, b), a) ? 0 : 1;
    }

    public int hangs(int g) {
        if (!slate.isGuest(g)) {
            return BAD;
        }
        return has(tonight.here, g) ? tonight.hangingOn(g) : NO;
    }

    // ---- other mornings

    public int woken(int a, int b) {
        if (!slate.isGuest(a) || !slate.isGuest(b) || a == b) {
            return BAD;
        }
        if (mornings.isFull()) {
            return FULL;
        }
        mornings.add(a, b);
        surveyed = false;
        return mornings.told;
    }

    public int forget() {
        int told = mornings.told;
        mornings.clear();
        surveyed = false;
        return told;
    }

    public int slates(int what) {
        if (what < 0 || what > 1) {
            return BAD;
        }
        surveyIfChanged();
        return what == 0 ? survey.twosAsWoken() : survey.firstTwoAsWoken();
    }

    public int washed() {
        surveyIfChanged();
        return survey.roundsAsWoken;
    }

    // ---- two boots, chance, dawns

    public int two(int what) {
        if (what < 0 || what > 1) {
            return BAD;
        }
        int lowest = 0;
        int least = tonight.laterEnd(lowest);
        for (int first = 1; first < 1 << MOST_GUESTS; first++) {
            boolean allHere = (first & ~tonight.here) == 0;
            int end = tonight.laterEnd(first);
            if (allHere && end < least) {
                lowest = first;
                least = end;
            }
        }
        return what == 0 ? least : lowest;
    }

    public int overslept(int g, int x, int part) {
        if (!slate.isGuest(g) || x < 0 || x > 10 || part < 0 || part > 1) {
            return BAD;
        }
        if (!has(tonight.here, g)) {
            return NO;
        }
        int above = 10 - x;
        int below = 10;
        for (int d = 10; d > 1; d--) {
            if (above % d == 0 && below % d == 0) {
                above /= d;
                below /= d;
            }
        }
        // a power of a fraction in lowest terms is in lowest terms
        return power(part == 0 ? above : below, 1 + othersHungOnBy(g));
    }

    public int dawn(int z, int n, int what) {
        if (z < 0 || z > LAST_Z || n < 1 || n > MOST_DAWNS || what < 0 || what > 1) {
            return BAD;
        }
        reckonEndsWithout();
        int dawns = 0;
        int minutes = 0;
        for (int k = 0; k < n; k++) {
            int end = at(endsWithout, drawnGuest(z, k));
            if (end != NONE) {
                dawns++;
                minutes += end;
            }
        }
        return what == 0 ? dawns : minutes;
    }

    public int keep() {
        if (kept.isFull()) {
            return FULL;
        }
        kept.add(tonight.packed());
        return kept.size;
    }

    public int back() {
        if (kept.size < 1) {
            return NO;
        }
        restore(kept.takeLast());
        undoable.clear();
        return kept.size;
    }

    public int count(int what) {
        switch (what) {
            case 0:
                return slate.guests;
            case 1:
                return Integer.bitCount(tonight.here);
            case 2:
                return slate.wishes;
            case 3:
                return Integer.bitCount(tonight.standing());
            case 4:
                return Integer.bitCount(tonight.struck);
            case 5:
                return slate.start;
            case 6:
                return mornings.told;
            case 7:
                return undoable.size;
            case 8:
                return kept.size;
            case 9:
                return text.length;
            default:
                return BAD;
        }
    }

    // ---- helpers

    private boolean layText() {
        if (reader.readAll() != NONE || draft.guests < 1) {
            return false;
        }
        slate.takeFrom(draft);
        tonight.begin();
        undoable.clear();
        kept.clear();
        mornings.clear();
        surveyed = false;
        return true;
    }

    private void rememberForUndo() {
        undoable.add(tonight.packed());
        surveyed = false;
    }

    private void restore(long packed) {
        tonight.unpack(packed);
        surveyed = false;
    }

    /** Going through all rounds is dear, so what it finds serves until something changes. */
    private void surveyIfChanged() {
        if (!surveyed) {
            survey.goThrough(tonight, mornings);
            surveyed = true;
        }
    }

    private int guestOfGoodRound(int[] order, int k) {
        boolean there = survey.goodRounds > 0 && k <= Integer.bitCount(tonight.here);
        return there ? at(order, k - 1) : NONE;
    }

    private int othersHungOnBy(int g) {
        int others = 0;
        for (int h = 0; h < slate.guests; h++) {
            if (has(tonight.here, h) && has(tonight.hangingOn(h), g)) {
                others++;
            }
        }
        return others;
    }

    private void reckonEndsWithout() {
        for (int g = 0; g < endsWithout.length; g++) {
            otherNight.unpack(tonight.packed());
            otherNight.here &= ~(1 << g);
            endsWithout[g] = NONE;
            if (slate.isGuest(g)) {
                otherSurvey.goThrough(otherNight, mornings);
                endsWithout[g] = otherSurvey.endOrNone();
            }
        }
    }

    private int drawnGuest(int z, int k) {
        if (slate.guests < 1) {
            return 0;
        }
        long x = 7919L * z + 6151L * k + 1;
        long draw = x * x % 65521 / 8;
        return (int) (draw % slate.guests);
    }

    private static int power(int base, int times) {
        int product = 1;
        for (int i = 0; i < times; i++) {
            product *= base;
        }
        return product;
    }

    private static int at(int[] row, int i) {
        return i >= 0 && i < row.length ? row[i] : 0;
    }

    private static void put(int[] row, int i, int value) {
        if (i >= 0 && i < row.length) {
            row[i] = value;
        }
    }

    private static void copy(int[] from, int[] to) {
        for (int i = 0; i < from.length && i < to.length; i++) {
            to[i] = from[i];
        }
    }

    private static boolean has(int bits, int i) {
        return ((bits >> i) & 1) == 1;
    }

    /** THE TEXT: what has been written, whether it can be laid or not. */
    private static final class Text {
        private static final char BEHIND_THE_LAST = (char) 0;

        private final char[] letters = new char[MOST_LETTERS];
        private int length;

        private boolean isFull() {
            return length >= letters.length;
        }

        private void add(char letter) {
            if (length >= 0 && length < letters.length) {
                letters[length] = letter;
                length++;
            }
        }

        private void clear() {
            length = 0;
        }

        private char letterAt(int i) {
            return i >= 0 && i < length && i < letters.length ? letters[i] : BEHIND_THE_LAST;
        }
    }

    /** Reads a text item by item into a draft, up to the first fault. */
    private static final class Reader {
        private final Text text;
        private final Slate draft;
        private int next;

        private Reader(Text text, Slate draft) {
            this.text = text;
            this.draft = draft;
        }

        /** The place of the fault (the text's first letter has place 0), or NONE. */
        private int readAll() {
            draft.clear();
            next = 0;
            for (int item = 0; item < MOST_LETTERS && next < text.length; item++) {
                int start = next;
                if (!readItem()) {
                    return start;
                }
            }
            return NONE;
        }

        private boolean readItem() {
            char letter = text.letterAt(next);
            next++;
            int first = readNumber();
            int second = NONE;
            if (letter != 'f' && letter != 's') {
                if (!readSign(',')) {
                    return false;
                }
                second = readNumber();
                if (second < 0) {
                    return false;
                }
            }
            return first >= 0 && readSign(';') && draw(letter, first, second);
        }

        /** A number of one or two figures, or NONE. */
        private int readNumber() {
            int number = figureAt(next);
            if (number < 0) {
                return NONE;
            }
            next++;
            int figure = figureAt(next);
            if (figure >= 0) {
                number = 10 * number + figure;
                next++;
            }
            return number;
        }

        private int figureAt(int i) {
            char letter = text.letterAt(i);
            return letter >= '0' && letter <= '9' ? letter - '0' : NONE;
        }

        private boolean readSign(char sign) {
            boolean there = text.letterAt(next) == sign;
            next++;
            return there;
        }

        private boolean draw(char letter, int first, int second) {
            switch (letter) {
                case 'g':
                    return draft.addGuest(first, second);
                case 'b':
                    return draft.addWish(BEFORE, first, second);
                case 'a':
                    return draft.addWish(JUST_AFTER, first, second);
                case 'f':
                    return draft.addWish(FIRST, first, NONE);
                case 'n':
                    return draft.addWish(NOT_SOONER, first, second);
                case 'u':
                    return draft.addWish(NOT_LATER, first, second);
                case 's':
                    draft.start = first;
                    return true;
                default:
                    return false;
            }
        }
    }

    /** What a text tells: guests, wishes and when the boots begins. */
    private static final class Slate {
        private final int[] guestKind = new int[MOST_GUESTS];
        private final int[] guestFloor = new int[MOST_GUESTS];
        private final int[] wishKind = new int[MOST_WISHES];
        private final int[] wishA = new int[MOST_WISHES];
        private final int[] wishB = new int[MOST_WISHES];
        // of each wish: whom it names, as bits
        private final int[] wishNames = new int[MOST_WISHES];
        private int guests;
        private int wishes;
        private int start;

        private void clear() {
            guests = 0;
            wishes = 0;
            start = 0;
        }

        private boolean isGuest(int g) {
            return g >= 0 && g < guests;
        }

        private boolean isWish(int w) {
            return w >= 0 && w < wishes;
        }

        private boolean addGuest(int kind, int floor) {
            if (guests >= MOST_GUESTS || kind > DEAF || floor > TOP_FLOOR) {
                return false;
            }
            put(guestKind, guests, kind);
            put(guestFloor, guests, floor);
            guests++;
            return true;
        }

        private boolean addWish(int kind, int a, int b) {
            boolean ofTwo = isOfTwo(kind);
            if (wishes >= MOST_WISHES || !isGuest(a) || ofTwo && (!isGuest(b) || a == b)) {
                return false;
            }
            put(wishNames, wishes, ofTwo ? 1 << a | 1 << b : 1 << a);
            put(wishKind, wishes, kind);
            put(wishA, wishes, a);
            put(wishB, wishes, b);
            wishes++;
            return true;
        }

        private static boolean isOfTwo(int kind) {
            return kind == BEFORE || kind == JUST_AFTER;
        }

        private void takeFrom(Slate other) {
            copy(other.guestKind, guestKind);
            copy(other.guestFloor, guestFloor);
            copy(other.wishKind, wishKind);
            copy(other.wishA, wishA);
            copy(other.wishB, wishB);
            copy(other.wishNames, wishNames);
            guests = other.guests;
            wishes = other.wishes;
            start = other.start;
        }
    }

    /** A slate as things stand: who is here, on which floor, which wishes are struck out. */
    private static final class Night {
        private static final int BITS_OF_FLOOR = 4;

        private final Slate slate;
        private final int[] floors = new int[MOST_GUESTS];
        private int here;
        private int struck;

        private Night(Slate slate) {
            this.slate = slate;
        }

        private void begin() {
            copy(slate.guestFloor, floors);
            here = (1 << slate.guests) - 1;
            struck = 0;
        }

        /** All that can change of a night in one number, so that nights are kept without new objects. */
        private long packed() {
            long packed = 0;
            for (int g = 0; g < floors.length; g++) {
                packed = (packed << BITS_OF_FLOOR) | floors[g];
            }
            return packed << (MOST_WISHES + MOST_GUESTS) | (struck << MOST_GUESTS) | here;
        }

        private void unpack(long packed) {
            here = lowBits(packed, MOST_GUESTS);
            struck = lowBits(packed >> MOST_GUESTS, MOST_WISHES);
            long rest = packed >> (MOST_WISHES + MOST_GUESTS);
            for (int g = floors.length - 1; g >= 0; g--) {
                floors[g] = lowBits(rest, BITS_OF_FLOOR);
                rest >>= BITS_OF_FLOOR;
            }
        }

        private static int lowBits(long packed, int bits) {
            return (int) packed & ((1 << bits) - 1);
        }

        private int wakingOf(int g) {
            switch (at(slate.guestKind, g)) {
                case HEAVY:
                    return 3;
                case LIGHT:
                    return 0;
                case DEAF:
                    return 2 + at(floors, g);
                default:
                    return 1;
            }
        }

        private boolean stands(int w) {
            boolean allHere = (at(slate.wishNames, w) & ~here) == 0;
            return allHere && !has(struck, w);
        }

        private int standing() {
            int bits = 0;
            for (int w = 0; w < slate.wishes; w++) {
                if (stands(w)) {
                    bits |= 1 << w;
                }
            }
            return bits;
        }

        private int notSoonerThan(int g) {
            int minute = 0;
            for (int w = 0; w < slate.wishes; w++) {
                if (at(slate.wishKind, w) == NOT_SOONER && at(slate.wishA, w) == g && stands(w)) {
                    minute = Math.max(minute, at(slate.wishB, w));
                }
            }
            return minute;
        }

        private int hangingOn(int g) {
            int found = 1 << g;
            // a chain of wishes passes each guest once
            for (int link = 0; link < slate.guests; link++) {
                found |= rightBehind(found);
            }
            return found & ~(1 << g);
        }

        private int rightBehind(int those) {
            int found = 0;
            for (int w = 0; w < slate.wishes; w++) {
                int kind = at(slate.wishKind, w);
                if (Slate.isOfTwo(kind) && stands(w)) {
                    boolean before = kind == BEFORE;
                    int leader = before ? at(slate.wishA, w) : at(slate.wishB, w);
                    int follower = before ? at(slate.wishB, w) : at(slate.wishA, w);
                    if (has(those, leader)) {
                        found |= 1 << follower;
                    }
                }
            }
            return found;
        }

        /** When the later of two boots ends, if the first one has these and the second one the others. */
        private int laterEnd(int ofFirst) {
            return Math.max(endOfBoots(ofFirst), endOfBoots(here & ~ofFirst));
        }

        private int endOfBoots(int those) {
            int highest = 0;
            int minutes = 0;
            for (int g = 0; g < floors.length; g++) {
                if (has(those, g)) {
                    highest = Math.max(highest, floors[g]);
                    minutes += wakingOf(g);
                }
            }
            return slate.start + highest + minutes;
        }
    }

    /** Packed nights one behind the other; where there is room for no more, the oldest goes. */
    private static final class Pile {
        private final long[] nights;
        private int size;

        private Pile(int most) {
            nights = new long[most < 1 ? 1 : most];
        }

        private boolean isFull() {
            return size >= nights.length;
        }

        private void add(long night) {
            if (isFull()) {
                dropOldest();
            }
            if (size >= 0 && size < nights.length) {
                nights[size] = night;
                size++;
            }
        }

        private void dropOldest() {
            for (int i = 1; i < nights.length; i++) {
                nights[i - 1] = nights[i];
            }
            size = nights.length - 1;
        }

        private long takeLast() {
            if (size < 1 || size > nights.length) {
                return 0;
            }
            size--;
            return nights[size];
        }

        private void clear() {
            size = 0;
        }
    }

    /** Who came ahead of whom on other mornings. */
    private static final class Mornings {
        private final int[] ahead = new int[MOST_WOKEN];
        private final int[] behind = new int[MOST_WOKEN];
        private int told;

        private boolean isFull() {
            return told >= MOST_WOKEN;
        }

        private void add(int a, int b) {
            put(ahead, told, a);
            put(behind, told, b);
            told++;
        }

        private void clear() {
            told = 0;
        }

        private boolean agreeWith(Round round, int here) {
            for (int i = 0; i < told; i++) {
                int a = at(ahead, i);
                int b = at(behind, i);
                if (has(here, a) && has(here, b) && !round.isAhead(a, b)) {
                    return false;
                }
            }
            return true;
        }
    }

    /** An order of all who are here, with the place and the time that it gives to each. */
    private static final class Round {
        private final int[] order = new int[MOST_GUESTS];
        private final int[] places = new int[MOST_GUESTS];
        private final int[] times = new int[MOST_GUESTS];
        private final int[] waits = new int[MOST_GUESTS];
        private final int[] wakings = new int[MOST_GUESTS];
        private int size;
        private int end;

        /** The first order of all; waits and wakings are the same in all that follow. */
        private void beginWith(Night night) {
            size = 0;
            for (int g = 0; g < order.length; g++) {
                if (has(night.here, g)) {
                    put(order, size, g);
                    size++;
                }
                put(waits, g, night.notSoonerThan(g));
                put(wakings, g, night.wakingOf(g));
            }
        }

        /** Turns to the next order by the first guest, then the second, ..; false behind the last. */
        private boolean turnToNext() {
            int turn = size - 2;
            while (turn >= 0 && at(order, turn) > at(order, turn + 1)) {
                turn--;
            }
            if (turn < 0) {
                return false;
            }
            int other = size - 1;
            while (other > turn && at(order, other) < at(order, turn)) {
                other--;
            }
            swap(turn, other);
            for (int low = turn + 1, high = size - 1; low < high; low++, high--) {
                swap(low, high);
            }
            return true;
        }

        private void swap(int i, int j) {
            int guest = at(order, i);
            put(order, i, at(order, j));
            put(order, j, guest);
        }

        private void walk(Night night) {
            int floor = 0;
            int minute = night.slate.start;
            for (int i = 0; i < size; i++) {
                int g = at(order, i);
                int floorOfGuest = at(night.floors, g);
                minute = Math.max(minute + Math.abs(floorOfGuest - floor), at(waits, g));
                floor = floorOfGuest;
                put(places, g, i);
                put(times, g, minute);
                minute += at(wakings, g);
            }
            end = minute;
        }

        private boolean isAhead(int a, int b) {
            return at(places, a) < at(places, b);
        }

        private int keptOf(Slate slate, int wishes) {
            int bits = 0;
            for (int w = 0; w < slate.wishes; w++) {
                if (has(wishes, w) && isKept(slate, w)) {
                    bits |= 1 << w;
                }
            }
            return bits;
        }

        private boolean isKept(Slate slate, int w) {
            int a = at(slate.wishA, w);
            int b = at(slate.wishB, w);
            switch (at(slate.wishKind, w)) {
                case BEFORE:
                    return at(places, a) < at(places, b);
                case JUST_AFTER:
                    return at(places, a) == at(places, b) + 1;
                case FIRST:
                    return at(places, a) == 0;
                case NOT_LATER:
                    return at(times, a) <= b;
                default:
                    // the boots waits, so nobody is woken sooner than he wishes
                    return true;
            }
        }
    }

    /** What all rounds of a night tell together. */
    private static final class Survey {
        private final Round round = new Round();
        private final int[] keptSets = new int[1 << MOST_WISHES];
        private final int[] firstGood = new int[MOST_GUESTS];
        private final int[] soonestGood = new int[MOST_GUESTS];
        private final int[] earliest = new int[MOST_GUESTS];
        private final int[] latest = new int[MOST_GUESTS];
        // of each guest: who comes behind him in a good round, as bits
        private final int[] behind = new int[MOST_GUESTS];
        private final int[] behindAsWoken = new int[MOST_GUESTS];
        private int standing;
        private int goodRounds;
        private int soonestEnd;
        private int roundsAsWoken;

        private void goThrough(Night night, Mornings mornings) {
            clear();
            standing = night.standing();
            round.beginWith(night);
            boolean more = true;
            for (int n = 0; n < MOST_ROUNDS && more; n++) {
                round.walk(night);
                note(night, mornings);
                more = round.turnToNext();
            }
        }

        private void clear() {
            Arrays.fill(keptSets, 0);
            Arrays.fill(behind, 0);
            Arrays.fill(behindAsWoken, 0);
            goodRounds = 0;
            roundsAsWoken = 0;
        }

        private void note(Night night, Mornings mornings) {
            int keptSet = round.keptOf(night.slate, standing);
            put(keptSets, keptSet, 1);
            boolean asWoken = mornings.agreeWith(round, night.here);
            if (asWoken) {
                roundsAsWoken++;
            }
            if (keptSet == standing) {
                noteGood(asWoken);
            }
        }

        private void noteGood(boolean asWoken) {
            goodRounds++;
            boolean isFirst = goodRounds == 1;
            if (isFirst) {
                copy(round.order, firstGood);
            }
            if (isFirst || round.end < soonestEnd) {
                soonestEnd = round.end;
                copy(round.order, soonestGood);
            }
            int later = 0;
            for (int i = round.size - 1; i >= 0; i--) {
                int g = at(round.order, i);
                put(earliest, g, isFirst ? i + 1 : Math.min(at(earliest, g), i + 1));
                put(latest, g, isFirst ? i + 1 : Math.max(at(latest, g), i + 1));
                put(behind, g, at(behind, g) | later);
                if (asWoken) {
                    put(behindAsWoken, g, at(behindAsWoken, g) | later);
                }
                later |= 1 << g;
            }
        }

        private int endOrNone() {
            return goodRounds > 0 ? soonestEnd : NONE;
        }

        private int largestKept() {
            int best = 0;
            for (int set = 0; set < keptSets.length; set++) {
                if (keptSets[set] == 1 && Integer.bitCount(set) > Integer.bitCount(best)) {
                    best = set;
                }
            }
            return best;
        }

        private int smallestNeverKept() {
            // none is GOOD, so all that stand are such a set, and the highest one
            int best = standing;
            for (int set = 0; set < standing; set++) {
                boolean allStand = (set & ~standing) == 0;
                if (allStand && Integer.bitCount(set) < Integer.bitCount(best) && !isKeptByOne(set)) {
                    best = set;
                }
            }
            return best;
        }

        private boolean isKeptByOne(int set) {
            // a set with all of these is no lower number
            for (int larger = set; larger >= 0 && larger < keptSets.length; larger++) {
                if (keptSets[larger] == 1 && (set & ~larger) == 0) {
                    return true;
                }
            }
            return false;
        }

        private int twosAsWoken() {
            int twos = 0;
            for (int a = 0; a < behindAsWoken.length; a++) {
                twos += Integer.bitCount(behindAsWoken[a]);
            }
            return twos;
        }

        private int firstTwoAsWoken() {
            for (int a = 0; a < behindAsWoken.length; a++) {
                for (int b = 0; b < MOST_GUESTS; b++) {
                    if (has(behindAsWoken[a], b)) {
                        return 10 * a + b;
                    }
                }
            }
            return NONE;
        }
    }
}
