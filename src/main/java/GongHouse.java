import java.util.Arrays;
import java.util.NoSuchElementException;

/** A house that eats what was cooked some days ago. The words in capitals are those of the document. */
public final class GongHouse {
    public static final int NONE = -1;
    public static final int HIDDEN = -1000000;

    private static final int REFUSED = -2;
    private static final int END = -1;

    private static final int MOST_BYTES = 240;
    private static final int MOST_DISHES = 5;
    private static final int MOST_GUESTS = 6;
    private static final int MOST_CLAUSES = 1 + MOST_DISHES + MOST_GUESTS;
    private static final int MOST_TEXTS = 4;
    private static final int MOST_STEPS = 16;
    private static final int MOST_NESTED = 6;
    private static final int MOST_SEEN = 10;
    private static final int MOST_ACTS = 40;
    private static final int MOST_LOGGED = 60;
    private static final int MOST_HAND = 3;
    private static final int MOST_STAY = 99;
    private static final int MOST_COINS = 999;
    private static final int MOST_JOY = 999;
    private static final int LEAST_JOY = -99;
    private static final int LEAVING_JOY = -10;
    private static final int MOST_GAIN = 20;
    private static final int LEAST_GAIN = -9;
    private static final int MOST_WARMTH = 20;
    private static final int LAST_DAY = 999;
    private static final int KIND_COUNT = 4;
    private static final int MAKE_UP_COST = 5;
    private static final int MOST_AHEAD = 20;
    private static final int LONG_AHEAD = 60;
    private static final int WHOLE = 1000000000;

    // Items of the clauses of a HOUSE: of each letter the least, the most and the usual number.
    private static final String RULE_LETTERS = "lhc";
    private static final int[] RULE_BOUNDS = {0, 3, 1, 0, 9, 3, 0, 99, 20};
    private static final String DISH_LETTERS = "wck";
    private static final int[] DISH_BOUNDS = {0, 20, 12, 0, 9, 2, 0, 3, 0};
    private static final String GUEST_LETTERS = "aslp";
    private static final int[] GUEST_BOUNDS = {0, 20, 0, 1, 20, 7, 0, 3, 0, 0, 9, 3};

    private static final int RULE_ITEMS = 3;
    private static final int DISH_ITEMS = 3;
    private static final int GUEST_ITEMS = 4;
    private static final int RULE_HAND = 0;
    private static final int RULE_COLDER = 1;
    private static final int RULE_COINS = 2;
    private static final int DISH_WARMTH = 0;
    private static final int DISH_COST = 1;
    private static final int DISH_KIND = 2;
    private static final int GUEST_COMES = 0;
    private static final int GUEST_STAYS = 1;
    private static final int GUEST_LIKES = 2;
    private static final int GUEST_PAYS = 3;

    // Where a State holds what; of what was COOKED only the latest four DAYS can still be SERVED.
    private static final int DAY = 0;
    private static final int HAND = 1;
    private static final int COINS = 2;
    private static final int CHOSEN = 3;
    private static final int LEFT = 4;
    private static final int COOKED_DISH = 5;
    private static final int COOKED_PORTIONS = 9;
    private static final int STAYS = 13;
    private static final int LIKES = STAYS + MOST_GUESTS;
    private static final int JOY = LIKES + MOST_GUESTS;
    private static final int STATE_SIZE = JOY + MOST_GUESTS;
    private static final int COOKED_MASK = 3;

    // What can be done; the first five are the STEPS of a WEEK, in the order of their letters.
    private static final String STEP_LETTERS = "dciux";
    private static final int[] STEP_DIGITS = {0, 1, 0, 0, 2};
    private static final int DO_DAY = 0;
    private static final int DO_CHOOSE = 1;
    private static final int DO_ILL = 2;
    private static final int DO_MAKE_UP = 3;
    private static final int DO_STAY = 4;
    private static final int DO_SIGN = 5;

    // The code of a LAW: a number of 0 or more stands for itself, the rest are these.
    private static final String LAW_LETTERS = "wlfnpd";
    private static final int LETTER_COUNT = 6;
    private static final int CODE_LETTER = -LETTER_COUNT;
    private static final int CODE_ADD = -7;
    private static final int CODE_SUBTRACT = -8;
    private static final int CODE_MULTIPLY = -9;
    private static final int CODE_DIVIDE = -10;
    private static final int CODE_EQUAL = -11;
    private static final int CODE_LESS = -12;
    private static final int CODE_MORE = -13;
    private static final int CODE_AND = -14;
    private static final int CODE_OR = -15;
    private static final int CODE_NOT = -16;
    private static final int CODE_SKIP = -17;
    private static final int CODE_STOP = -18;
    private static final int LAW_BOUND = 1000000;
    private static final int LAW_STACK = 32;

    private static final int SORT_HOUSE = 0;
    private static final int SORT_LAW = 1;
    private static final int SORT_WEEK = 2;

    private static final long DRAW_FACTOR = 6364136223846793005L;
    private static final long DRAW_ADDEND = 1442695040888963407L;

    private final Tape tape = new Tape();
    private final House house = new House();
    private final House houseDraft = new House();
    private final LawReader lawReader = new LawReader(tape);
    private final Law[] laws = new Law[MOST_TEXTS];
    private final Week[] weeks = new Week[MOST_TEXTS];
    private final State now = new State();
    private final State before = new State();
    private final Past past = new Past();
    private final Evening evening = new Evening(house);
    private final Deeds deeds = new Deeds(house, evening);
    private final Foresight foresight = new Foresight(house, evening, deeds);
    private final Sights sights = new Sights(house, evening);
    private Week weekDraft = new Week();
    private int lawCount = 0;
    private int weekCount = 0;
    private int lawThatHolds = NONE;
    private int feverNow = 1;
    private boolean housed = false;
    private long drawn = 0;

    public GongHouse() {
    }

    public int feed(int a, int b, int c, int d, int e) {
        int coming = Tape.bytesIn(a) + Tape.bytesIn(b) + Tape.bytesIn(c) + Tape.bytesIn(d) + Tape.bytesIn(e);
        if (tape.length + coming > MOST_BYTES) {
            return NONE;
        }
        tape.append(a);
        tape.append(b);
        tape.append(c);
        tape.append(d);
        tape.append(e);
        return tape.length;
    }

    public boolean end(int n) {
        if (n < 0 || n > tape.length) {
            return false;
        }
        tape.length = n;
        return true;
    }

    public int fault(int sort) {
        if (sort < SORT_HOUSE || sort > SORT_WEEK) {
            return REFUSED;
        }
        return readTape(sort) ? NONE : tape.eye;
    }

    public int text(int sort) {
        if (sort < SORT_HOUSE || sort > SORT_WEEK || !hasRoomFor(sort) || !readTape(sort)) {
            return NONE;
        }
        tape.length = 0;
        switch (sort) {
            case SORT_HOUSE:
                return moveIn();
            case SORT_LAW:
                laws[lawCount] = new Law(lawReader.written());
                return lawCount++;
            default:
                weeks[weekCount] = weekDraft;
                weekDraft = new Week();
                return weekCount++;
        }
    }

    public int rule(int what) {
        if (!housed) {
            return NONE;
        }
        switch (what) {
            case RULE_HAND:
                return now.at[HAND];
            case RULE_COLDER:
                return house.rules[RULE_COLDER];
            case RULE_COINS:
                return now.at[COINS];
            default:
                return NONE;
        }
    }

    public int dish(int dish, int what) {
        if (!house.hasDish(dish) || what < 0 || what >= DISH_ITEMS) {
            return NONE;
        }
        return house.ofDish(dish, what);
    }

    public int guest(int guest, int what) throws NoSuchElementException {
        if (!house.hasGuest(guest)) {
            throw new NoSuchElementException("no such guest");
        }
        switch (what) {
            case 0:
                return house.ofGuest(guest, GUEST_COMES);
            case 1:
                return now.at[STAYS + guest];
            case 2:
                return now.at[LIKES + guest];
            case 3:
                return house.ofGuest(guest, GUEST_PAYS);
            case 4:
                return now.at[JOY + guest];
            case 5:
                return now.hasLeft(guest) ? 1 : 0;
            default:
                throw new NoSuchElementException("nothing such of a guest");
        }
    }

    public boolean law(int law) {
        if (law < NONE || law >= lawCount) {
            return false;
        }
        lawThatHolds = law;
        evening.law = law == NONE ? null : laws[law];
        return true;
    }

    public boolean fever(int v) {
        if (v < 0 || v > 9 || v == feverNow) {
            return false;
        }
        feverNow = v;
        return true;
    }

    public int day() {
        return act(DO_DAY, NONE, NONE) ? Integer.bitCount(evening.fedBits) : NONE;
    }

    public int choose(int dish) {
        int chosen = now.at[CHOSEN];
        return act(DO_CHOOSE, dish, NONE) ? chosen : REFUSED;
    }

    public int ill() {
        return act(DO_ILL, NONE, NONE) ? now.at[HAND] : NONE;
    }

    public int makeUp() {
        return act(DO_MAKE_UP, NONE, NONE) ? now.at[HAND] : NONE;
    }

    public int stay(int guest, int n) {
        return act(DO_STAY, guest, n) ? now.at[STAYS + guest] : NONE;
    }

    public int sign(int guest, int kind) {
        return act(DO_SIGN, guest, kind) ? before.at[LIKES + guest] : NONE;
    }

    public int years(int n, long seed) {
        if (!housed || n < 1 || n > 30 || now.at[DAY] + n > LAST_DAY) {
            return NONE;
        }
        drawn = seed;
        for (int i = 0; i < n; i++) {
            before.copyFrom(now);
            meetChance();
            evening.pass(now);
            past.keepAct(before);
            past.writeLog(now, evening);
        }
        return now.at[DAY];
    }

    public int undo() {
        return past.undoAct(now) ? past.actCount : NONE;
    }

    public int log(int i, int what) {
        int day = now.at[DAY];
        if (i < 0 || i >= Past.logLength(day) || what < 0 || what >= Past.LOG_ITEMS) {
            return HIDDEN;
        }
        return past.ofLog(day - 1 - i, what);
    }

    public int step(int week, int i, int what) {
        Week asked = weekAt(week);
        if (asked == null || i < 0 || i >= asked.size || what < 0 || what >= Week.STEP_ITEMS) {
            return HIDDEN;
        }
        return asked.ofStep(i, what);
    }

    public int run(int week, int what) {
        Week asked = weekAt(week);
        if (asked == null || !housed || what < 0 || what > 1) {
            return HIDDEN;
        }
        int done = foresight.stepsDone(now, asked);
        if (what == 1) {
            return foresight.joyGained;
        }
        return done == asked.size ? NONE : done;
    }

    public int perform(int week) {
        Week asked = weekAt(week);
        if (asked == null || !housed) {
            return NONE;
        }
        for (int i = 0; i < asked.size; i++) {
            if (!act(asked.ofStep(i, 0), asked.ofStep(i, 1), asked.ofStep(i, 2))) {
                return i;
            }
        }
        return asked.size;
    }

    public int serves(int n, int what) {
        if (!housed || n < 0 || n > MOST_AHEAD) {
            return NONE;
        }
        foresight.layAhead(now, n);
        if (evening.dish == NONE) {
            return NONE;
        }
        switch (what) {
            case 0:
                return evening.dish;
            case 1:
                return evening.warmth;
            case 2:
                return evening.servings;
            default:
                return NONE;
        }
    }

    public int there(int n) {
        if (!housed || n < 0 || n > MOST_AHEAD) {
            return NONE;
        }
        foresight.layAhead(now, n);
        return evening.thereBits;
    }

    public int fed(int guest) {
        if (!house.hasGuest(guest) || !evening.isThere(now, guest)) {
            return NONE;
        }
        evening.lay(now);
        return evening.fedPortions[guest];
    }

    public int best(int n, int what) {
        if (!housed || n < 1 || n > 3 || what < 0 || what > 1) {
            return HIDDEN;
        }
        foresight.seekBest(now, n);
        return what == 0 ? foresight.bestRow : foresight.bestJoy;
    }

    public int madeUp(int v) {
        if (!housed || v < 0 || v > MOST_WARMTH) {
            return NONE;
        }
        return foresight.fewestMadeUp(now, v);
    }

    public int seen(int guest, int dish, int w, int v, boolean had) {
        if (!house.hasGuest(guest) || !house.hasDish(dish) || !areWarmthAndJoy(w, v)) {
            return NONE;
        }
        return sights.add(guest, dish, w, v, had);
    }

    public int likes(int guest) {
        return house.hasGuest(guest) ? sights.kindsLeft(guest) : NONE;
    }

    public int probe(int guest, int w, int v) {
        if (!house.hasGuest(guest) || !areWarmthAndJoy(w, v)) {
            return NONE;
        }
        return sights.dishToTry(guest, w, v);
    }

    public int leaves(int guest) {
        if (!house.hasGuest(guest) || now.hasLeft(guest)) {
            return NONE;
        }
        return foresight.daysToLeaving(now, guest);
    }

    public int game(int one, int other, int x, int y, int what) {
        if (!canPlay(one, other) || x < 0 || x > 3 || y < 0 || y > 3 || what < 0 || what > 1) {
            return HIDDEN;
        }
        foresight.play(now, one, other, x, y);
        return what == 0 ? foresight.firstHas : foresight.secondHas;
    }

    public int rests(int one, int other, int i) {
        if (!canPlay(one, other) || i < NONE || i >= Foresight.PAIRS) {
            return NONE;
        }
        foresight.playAll(now, one, other);
        return i == NONE ? foresight.restCount() : foresight.restAt(i);
    }

    public int odds(int guest, int n, int chance) {
        if (!house.hasGuest(guest) || n < 0 || n > 4 || chance < 0 || chance > 100) {
            return NONE;
        }
        return (int) foresight.oddsOf(now, guest, n, chance);
    }

    public int all(int what) {
        if (!housed) {
            return NONE;
        }
        evening.lay(now);
        switch (what) {
            case 0:
                return firstMost(now.at, JOY, 1, house.guestCount);
            case 1:
                return firstMost(now.at, STAYS, 1, house.guestCount);
            case 2:
                return firstMost(house.guests, GUEST_PAYS, GUEST_ITEMS, house.guestCount);
            case 3:
                return firstMost(house.dishes, DISH_WARMTH, DISH_ITEMS, house.dishCount);
            case 4:
                return cheapest();
            case 5:
                return mostLiked();
            case 6:
                return evening.thrownAway;
            case 7:
                return lastDay();
            case 8:
                return takings();
            case 9:
                return evening.cooks;
            case 10:
                return evening.thereBits & ~evening.fedBits;
            case 11:
                return foresight.daysToNothing(now);
            case 12:
                return foresight.fullestDay(now);
            default:
                return NONE;
        }
    }

    public int kinds(int kind) {
        if (!housed || kind < 0 || kind >= KIND_COUNT) {
            return NONE;
        }
        int bits = 0;
        for (int d = 0; d < house.dishCount; d++) {
            if (house.ofDish(d, DISH_KIND) == kind) {
                bits |= 1 << d;
            }
        }
        return bits;
    }

    public int staying(int guest) {
        if (!house.hasGuest(guest)) {
            return NONE;
        }
        if (now.hasLeft(guest)) {
            return 0;
        }
        int comes = house.ofGuest(guest, GUEST_COMES);
        int from = Math.max(now.at[DAY], comes);
        return Math.max(0, comes + now.at[STAYS + guest] - from);
    }

    public int image() {
        if (!housed) {
            return NONE;
        }
        past.takePicture(now);
        return now.at[DAY];
    }

    public int back() {
        return past.showPicture(now) ? now.at[DAY] : NONE;
    }

    public int count(int what) {
        switch (what) {
            case 0:
                return house.guestCount;
            case 1:
                return house.dishCount;
            case 2:
                return lawCount;
            case 3:
                return weekCount;
            case 4:
                return tape.length;
            case 5:
                return lawThatHolds;
            case 6:
                return now.at[DAY];
            case 7:
                return now.joyOfAll();
            case 8:
                return now.at[LEFT];
            case 9:
                return feverNow;
            case 10:
                return sights.count;
            case 11:
                return Past.logLength(now.at[DAY]);
            case 12:
                return past.actCount;
            default:
                return HIDDEN;
        }
    }

    private boolean hasRoomFor(int sort) {
        switch (sort) {
            case SORT_LAW:
                return lawCount < MOST_TEXTS;
            case SORT_WEEK:
                return weekCount < MOST_TEXTS;
            default:
                return true;
        }
    }

    /** Reads into drafts alone, so that asking for a FAULT changes nothing. */
    private boolean readTape(int sort) {
        tape.eye = 0;
        switch (sort) {
            case SORT_HOUSE:
                return houseDraft.readFrom(tape);
            case SORT_LAW:
                return lawReader.readLaw();
            default:
                return weekDraft.readFrom(tape);
        }
    }

    private int moveIn() {
        house.copyFrom(houseDraft);
        housed = true;
        now.begin(house);
        past.forget();
        sights.count = 0;
        return house.guestCount;
    }

    private Week weekAt(int week) {
        return week < 0 || week >= weekCount ? null : weeks[week];
    }

    /** Does what can be done as an ACT; false, with nothing changed, if it can't be. */
    private boolean act(int what, int first, int second) {
        if (!housed) {
            return false;
        }
        before.copyFrom(now);
        if (!deeds.carryOut(now, what, first, second)) {
            return false;
        }
        past.keepAct(before);
        if (what == DO_DAY) {
            past.writeLog(now, evening);
        }
        return true;
    }

    private void meetChance() {
        if (draw(10) < feverNow) {
            deeds.carryOut(now, DO_ILL, NONE, NONE);
        }
        now.at[CHOSEN] = draw(house.dishCount);
        if (draw(10) >= 8) {
            deeds.carryOut(now, DO_STAY, draw(house.guestCount), 2);
        }
    }

    private int draw(int j) {
        drawn = drawn * DRAW_FACTOR + DRAW_ADDEND;
        return j > 0 ? (int) ((drawn >>> 33) % j) : 0;
    }

    private static boolean areWarmthAndJoy(int w, int v) {
        return w >= 0 && w <= MOST_WARMTH && v >= LEAST_GAIN && v <= MOST_GAIN;
    }

    private boolean canPlay(int one, int other) {
        return house.hasGuest(one) && house.hasGuest(other) && one != other
            && !now.hasLeft(one) && !now.hasLeft(other);
    }

    private static int firstMost(int[] row, int from, int apart, int count) {
        int most = 0;
        for (int i = 1; i < count && from + i * apart < row.length; i++) {
            if (row[from + i * apart] > row[from + most * apart]) {
                most = i;
            }
        }
        return most;
    }

    private int cheapest() {
        int least = 0;
        for (int d = 1; d < house.dishCount; d++) {
            if (house.ofDish(d, DISH_COST) < house.ofDish(least, DISH_COST)) {
                least = d;
            }
        }
        return least;
    }

    private int mostLiked() {
        int liked = 0;
        int most = -1;
        for (int d = 0; d < house.dishCount; d++) {
            int friends = 0;
            for (int g = 0; g < house.guestCount; g++) {
                if (evening.isThere(now, g) && now.at[LIKES + g] == house.ofDish(d, DISH_KIND)) {
                    friends++;
                }
            }
            if (friends > most) {
                most = friends;
                liked = d;
            }
        }
        return liked;
    }

    private int lastDay() {
        int last = NONE;
        for (int g = 0; g < house.guestCount; g++) {
            if (!now.hasLeft(g)) {
                last = Math.max(last, house.ofGuest(g, GUEST_COMES) + now.at[STAYS + g] - 1);
            }
        }
        return last;
    }

    private int takings() {
        int sum = 0;
        for (int g = 0; g < house.guestCount; g++) {
            if (evening.isThere(now, g)) {
                sum += house.ofGuest(g, GUEST_PAYS);
            }
        }
        return sum;
    }

    /** The bytes that came, and an eye on them that a reader moves and leaves at the byte that is wrong. */
    private static final class Tape {
        private final byte[] bytes = new byte[MOST_BYTES];
        private int length = 0;
        private int eye = 0;
        private int number = 0;

        private static int bytesIn(int four) {
            int sum = 0;
            for (int shift = 24; shift >= 0; shift -= 8) {
                if ((four >>> shift & 255) != 0) {
                    sum++;
                }
            }
            return sum;
        }

        private void append(int four) {
            for (int shift = 24; shift >= 0; shift -= 8) {
                int sign = four >>> shift & 255;
                if (sign != 0 && length < MOST_BYTES) {
                    bytes[length] = (byte) sign;
                    length++;
                }
            }
        }

        /** The sign that is next, blanks passed over; END behind the last. */
        private int peek() {
            for (int i = eye; i < length && bytes[i] == ' '; i++) {
                eye++;
            }
            return eye < length ? bytes[eye] & 255 : END;
        }

        /** Which of these letters is next, NONE if none of them is. */
        private int peekAmong(String letters) {
            int sign = peek();
            return sign == END ? NONE : letters.indexOf((char) sign);
        }

        private boolean take(char sign) {
            if (peek() != sign) {
                return false;
            }
            eye++;
            return true;
        }

        /** A number of so many digits at most; the eye stays on its last digit if it is out of bounds. */
        private boolean readNumber(int digits, int least, int most) {
            int sign = peek();
            if (!isDigit(sign)) {
                return false;
            }
            int value = 0;
            for (int i = 0; i < digits; i++) {
                value = value * 10 + sign - '0';
                eye++;
                sign = eye < length ? bytes[eye] & 255 : END;
                if (!isDigit(sign)) {
                    number = value;
                    boolean fits = value >= least && value <= most;
                    eye -= fits ? 0 : 1;
                    return fits;
                }
            }
            return false;
        }

        /** One digit, which other digits may follow as things of their own. */
        private boolean readDigit() {
            int sign = peek();
            if (!isDigit(sign)) {
                return false;
            }
            number = sign - '0';
            eye++;
            return true;
        }

        private static boolean isDigit(int sign) {
            return sign >= '0' && sign <= '9';
        }
    }

    /** What a HOUSE's text tells, which no ACT changes. */
    private static final class House {
        private final int[] rules = new int[RULE_ITEMS];
        private final int[] dishes = new int[MOST_DISHES * DISH_ITEMS];
        private final int[] guests = new int[MOST_GUESTS * GUEST_ITEMS];
        private final int[] byComing = new int[MOST_GUESTS];
        private int dishCount = 0;
        private int guestCount = 0;
        private boolean ruled = false;

        private boolean hasDish(int dish) {
            return dish >= 0 && dish < dishCount;
        }

        private boolean hasGuest(int guest) {
            return guest >= 0 && guest < guestCount;
        }

        private int ofDish(int dish, int what) {
            int index = dish * DISH_ITEMS + what;
            return index >= 0 && index < dishes.length ? dishes[index] : 0;
        }

        private int ofGuest(int guest, int what) {
            int index = guest * GUEST_ITEMS + what;
            return index >= 0 && index < guests.length ? guests[index] : 0;
        }

        private int dishByDay(int day) {
            return dishCount > 0 ? day % dishCount : NONE;
        }

        private void copyFrom(House other) {
            System.arraycopy(other.rules, 0, rules, 0, rules.length);
            System.arraycopy(other.dishes, 0, dishes, 0, dishes.length);
            System.arraycopy(other.guests, 0, guests, 0, guests.length);
            dishCount = other.dishCount;
            guestCount = other.guestCount;
            ruled = other.ruled;
            orderByComing();
        }

        private void orderByComing() {
            int next = 0;
            for (int day = 0; day <= GUEST_BOUNDS[1]; day++) {
                for (int g = 0; g < guestCount; g++) {
                    if (ofGuest(g, GUEST_COMES) == day && next < MOST_GUESTS) {
                        byComing[next] = g;
                        next++;
                    }
                }
            }
        }

        private boolean readFrom(Tape tape) {
            dishCount = 0;
            guestCount = 0;
            ruled = false;
            setUsual(RULE_BOUNDS, rules, 0, RULE_ITEMS);
            for (int i = 0; i <= MOST_CLAUSES; i++) {
                if (!readClause(tape)) {
                    return false;
                }
                if (tape.peek() == END) {
                    return dishCount > 0 && guestCount > 0;
                }
                if (!tape.take(';')) {
                    return false;
                }
            }
            return false;
        }

        /** Looks ahead of all else: blanks are passed over even where no CLAUSE may come any more. */
        private boolean readClause(Tape tape) {
            int letter = tape.peek();
            if (letter == 's' && !ruled) {
                tape.eye++;
                ruled = true;
                return readItems(tape, RULE_LETTERS, RULE_BOUNDS, rules, 0);
            }
            if (letter == 'd' && dishCount < MOST_DISHES) {
                tape.eye++;
                dishCount++;
                return readItems(tape, DISH_LETTERS, DISH_BOUNDS, dishes, (dishCount - 1) * DISH_ITEMS);
            }
            if (letter == 'g' && guestCount < MOST_GUESTS) {
                tape.eye++;
                guestCount++;
                return readItems(tape, GUEST_LETTERS, GUEST_BOUNDS, guests, (guestCount - 1) * GUEST_ITEMS);
            }
            return false;
        }

        private static void setUsual(int[] bounds, int[] row, int from, int items) {
            for (int k = 0; k < items && from + k < row.length; k++) {
                row[from + k] = bounds[3 * k + 2];
            }
        }

        private static boolean readItems(Tape tape, String letters, int[] bounds, int[] row, int from) {
            setUsual(bounds, row, from, letters.length());
            int had = 0;
            for (int i = 0; i <= letters.length(); i++) {
                int k = tape.peekAmong(letters);
                if (k == NONE) {
                    return true;
                }
                if ((had >> k & 1) != 0 || from + k >= row.length) {
                    return false;
                }
                had |= 1 << k;
                tape.eye++;
                if (!tape.readNumber(2, bounds[3 * k], bounds[3 * k + 1])) {
                    return false;
                }
                row[from + k] = tape.number;
            }
            return false;
        }
    }

    /** Reads a LAW into code that is worked off with a stack, operands ahead of their sign. */
    private static final class LawReader {
        private static final int DIGITS = 4;
        private static final int MOST_NUMBER = 9999;
        private final Tape tape;
        private final int[] code = new int[MOST_BYTES];
        private int size = 0;

        private LawReader(Tape tape) {
            this.tape = tape;
        }

        private int[] written() {
            return Arrays.copyOf(code, size);
        }

        private boolean readLaw() {
            size = 0;
            for (int i = 0; i <= MOST_BYTES; i++) {
                if (!readClause()) {
                    return false;
                }
                if (tape.peek() == END) {
                    return true;
                }
                if (!tape.take(';')) {
                    return false;
                }
            }
            return false;
        }

        private boolean readClause() {
            if (!tape.take('y') || !tape.take(':')) {
                return false;
            }
            boolean begun = tape.peekAmong("!(") == NONE;
            if (begun && !readSum(0)) {
                return false;
            }
            if (begun && tape.peekAmong("=<>") == NONE) {
                write(CODE_STOP);
                return true;
            }
            if (!readCondition(0, begun) || !tape.take('?')) {
                return false;
            }
            write(CODE_SKIP);
            int target = size;
            write(0);
            if (!readSum(0)) {
                return false;
            }
            write(CODE_STOP);
            if (target < code.length) {
                code[target] = size;
            }
            return true;
        }

        /** With begun the first SUM has been read: only what comes behind it told that it is a CONDITION's. */
        private boolean readCondition(int depth, boolean begun) {
            if (!readTruth(depth, begun)) {
                return false;
            }
            for (int i = 0; i < MOST_BYTES && tape.take('|'); i++) {
                if (!readTruth(depth, false)) {
                    return false;
                }
                write(CODE_OR);
            }
            return true;
        }

        private boolean readTruth(int depth, boolean begun) {
            if (!readUnit(depth, begun)) {
                return false;
            }
            for (int i = 0; i < MOST_BYTES && tape.take('&'); i++) {
                if (!readUnit(depth, false)) {
                    return false;
                }
                write(CODE_AND);
            }
            return true;
        }

        private boolean readUnit(int depth, boolean begun) {
            if (!begun && tape.peekAmong("!(") != NONE) {
                return depth < MOST_NESTED && readNested(depth + 1);
            }
            if (!begun && !readSum(depth)) {
                return false;
            }
            int which = tape.peekAmong("=<>");
            if (which == NONE) {
                return false;
            }
            tape.eye++;
            if (!readSum(depth)) {
                return false;
            }
            write(CODE_EQUAL - which);
            return true;
        }

        private boolean readNested(int depth) {
            if (tape.take('(')) {
                return readCondition(depth, false) && tape.take(')');
            }
            if (!tape.take('!') || !readUnit(depth, false)) {
                return false;
            }
            write(CODE_NOT);
            return true;
        }

        private boolean readSum(int depth) {
            if (!readTerm(depth)) {
                return false;
            }
            for (int i = 0; i < MOST_BYTES; i++) {
                int which = tape.peekAmong("+-");
                if (which == NONE) {
                    return true;
                }
                tape.eye++;
                if (!readTerm(depth)) {
                    return false;
                }
                write(CODE_ADD - which);
            }
            return false;
        }

        private boolean readTerm(int depth) {
            if (!readAtom(depth)) {
                return false;
            }
            for (int i = 0; i < MOST_BYTES; i++) {
                int which = tape.peekAmong("*/");
                if (which == NONE) {
                    return true;
                }
                tape.eye++;
                if (!readAtom(depth)) {
                    return false;
                }
                write(CODE_MULTIPLY - which);
            }
            return false;
        }

        private boolean readAtom(int depth) {
            int letter = tape.peekAmong(LAW_LETTERS);
            if (letter != NONE) {
                tape.eye++;
                write(CODE_LETTER + letter);
                return true;
            }
            if (depth < MOST_NESTED && tape.take('[')) {
                return readSum(depth + 1) && tape.take(']');
            }
            if (!tape.readNumber(DIGITS, 0, MOST_NUMBER)) {
                return false;
            }
            write(tape.number);
            return true;
        }

        /** No text needs more code than it has bytes: each sign gives one at most, ? two, y and : none. */
        private void write(int op) {
            if (size < code.length) {
                code[size] = op;
                size++;
            }
        }
    }

    private static final class Law {
        private final int[] code;
        private final int[] stack = new int[LAW_STACK];

        private Law(int[] code) {
            this.code = code;
        }

        private int worth(int[] letters) {
            int top = 0;
            for (int i = 0; i < code.length; i++) {
                int op = code[i];
                if (op >= CODE_LETTER) {
                    if (top >= LAW_STACK) {
                        return 0;
                    }
                    stack[top] = op >= 0 ? op : letters[op - CODE_LETTER];
                    top++;
                } else if (op == CODE_STOP) {
                    return top > 0 ? stack[top - 1] : 0;
                } else if (top < 1) {
                    return 0;
                } else if (op == CODE_NOT) {
                    stack[top - 1] = 1 - stack[top - 1];
                } else if (op == CODE_SKIP) {
                    top--;
                    i++;
                    if (stack[top] == 0 && i < code.length) {
                        i = Math.max(i, code[i] - 1);
                    }
                } else if (top < 2) {
                    return 0;
                } else {
                    top--;
                    stack[top - 1] = joined(op, stack[top - 1], stack[top]);
                }
            }
            return 0;
        }

        /** Truths are 0 and 1, so the bounds of numbers leave them as they are. */
        private static int joined(int op, int a, int b) {
            long value = 0;
            switch (op) {
                case CODE_ADD:
                    value = a + b;
                    break;
                case CODE_SUBTRACT:
                    value = a - b;
                    break;
                case CODE_MULTIPLY:
                    value = (long) a * b;
                    break;
                case CODE_DIVIDE:
                    value = b == 0 ? 0 : a / b;
                    break;
                case CODE_EQUAL:
                    value = a == b ? 1 : 0;
                    break;
                case CODE_LESS:
                    value = a < b ? 1 : 0;
                    break;
                case CODE_MORE:
                    value = a > b ? 1 : 0;
                    break;
                case CODE_AND:
                    value = a & b;
                    break;
                case CODE_OR:
                    value = a | b;
                    break;
                default:
                    break;
            }
            return (int) (value > LAW_BOUND ? LAW_BOUND : value < -LAW_BOUND ? -LAW_BOUND : value);
        }
    }

    private static final class Week {
        private static final int STEP_ITEMS = 3;
        private final int[] steps = new int[MOST_STEPS * STEP_ITEMS];
        private int size = 0;

        private int ofStep(int step, int what) {
            int index = step * STEP_ITEMS + what;
            return index >= 0 && index < steps.length ? steps[index] : NONE;
        }

        private boolean readFrom(Tape tape) {
            size = 0;
            for (int i = 0; i < MOST_STEPS; i++) {
                if (!readStep(tape, i * STEP_ITEMS)) {
                    return false;
                }
                size++;
                if (tape.peek() == END) {
                    return true;
                }
                if (size == MOST_STEPS || !tape.take(';')) {
                    return false;
                }
            }
            return false;
        }

        private boolean readStep(Tape tape, int from) {
            int what = tape.peekAmong(STEP_LETTERS);
            if (what == NONE || from + 2 >= steps.length) {
                return false;
            }
            tape.eye++;
            steps[from] = what;
            steps[from + 1] = NONE;
            steps[from + 2] = NONE;
            for (int k = 1; k <= STEP_DIGITS[what]; k++) {
                if (!tape.readDigit()) {
                    return false;
                }
                steps[from + k] = tape.number;
            }
            return true;
        }
    }

    /** All that DAYS and ACTS change, in one row, so that it is kept and copied whole. */
    private static final class State {
        private final int[] at = new int[STATE_SIZE];

        private State() {
            at[CHOSEN] = NONE;
        }

        private void copyFrom(State other) {
            System.arraycopy(other.at, 0, at, 0, STATE_SIZE);
        }

        private void begin(House house) {
            Arrays.fill(at, 0);
            at[HAND] = house.rules[RULE_HAND];
            at[COINS] = house.rules[RULE_COINS];
            at[CHOSEN] = NONE;
            for (int g = 0; g < house.guestCount && g < MOST_GUESTS; g++) {
                at[STAYS + g] = house.ofGuest(g, GUEST_STAYS);
                at[LIKES + g] = house.ofGuest(g, GUEST_LIKES);
            }
        }

        private boolean hasLeft(int guest) {
            return (at[LEFT] >> guest & 1) != 0;
        }

        private int joyOfAll() {
            int sum = 0;
            for (int g = 0; g < MOST_GUESTS; g++) {
                sum += at[JOY + g];
            }
            return sum;
        }
    }

    /** ACTS that can be UNDONE, the LOG and the IMAGE. */
    private static final class Past {
        private static final int LOG_ITEMS = 3;
        // The latest 60 of the LOG must still be there when 40 DAYS are UNDONE.
        private static final int LOG_ROWS = 128;
        private final int[] acts = new int[MOST_ACTS * STATE_SIZE];
        private final int[] logged = new int[LOG_ROWS * LOG_ITEMS];
        private final int[] loggedThen = new int[LOG_ROWS * LOG_ITEMS];
        private final State picture = new State();
        private boolean pictured = false;
        private int nextAct = 0;
        private int actCount = 0;

        private void forget() {
            actCount = 0;
            pictured = false;
        }

        private void keepAct(State before) {
            System.arraycopy(before.at, 0, acts, nextAct * STATE_SIZE, STATE_SIZE);
            nextAct = nextAct + 1 < MOST_ACTS ? nextAct + 1 : 0;
            actCount = Math.min(actCount + 1, MOST_ACTS);
        }

        private boolean undoAct(State now) {
            if (actCount == 0) {
                return false;
            }
            nextAct = nextAct > 0 ? nextAct - 1 : MOST_ACTS - 1;
            actCount--;
            System.arraycopy(acts, nextAct * STATE_SIZE, now.at, 0, STATE_SIZE);
            return true;
        }

        /** Every DAY writes one line, so the DAY tells how long the LOG is. */
        private static int logLength(int day) {
            return Math.min(day, MOST_LOGGED);
        }

        private static int logRow(int day) {
            return (day & (LOG_ROWS - 1)) * LOG_ITEMS;
        }

        private void writeLog(State now, Evening evening) {
            int row = logRow(now.at[DAY] - 1);
            logged[row] = evening.dish;
            logged[row + 1] = evening.fedBits;
            logged[row + 2] = now.joyOfAll();
        }

        private int ofLog(int day, int what) {
            int index = logRow(day) + what;
            return index >= 0 && index < logged.length ? logged[index] : HIDDEN;
        }

        private void takePicture(State now) {
            picture.copyFrom(now);
            System.arraycopy(logged, 0, loggedThen, 0, logged.length);
            pictured = true;
        }

        private boolean showPicture(State now) {
            if (!pictured) {
                return false;
            }
            now.copyFrom(picture);
            System.arraycopy(loggedThen, 0, logged, 0, logged.length);
            actCount = 0;
            return true;
        }
    }

    /** One DAY: who is THERE, what is COOKED and SERVED, who is FED, what JOY that gives. */
    private static final class Evening {
        private final House house;
        private final int[] fedPortions = new int[MOST_GUESTS];
        private final int[] letters = new int[LETTER_COUNT];
        private Law law = null;
        private int thereBits = 0;
        private int cooks = NONE;
        private int portions = 0;
        private int dish = NONE;
        private int warmth = 0;
        private int servings = 0;
        private int fedBits = 0;
        private int thrownAway = 0;

        private Evening(House house) {
            this.house = house;
        }

        private boolean isThere(State s, int guest) {
            int since = s.at[DAY] - house.ofGuest(guest, GUEST_COMES);
            return since >= 0 && since < s.at[STAYS + guest] && !s.hasLeft(guest);
        }

        /** What this DAY would be, told in the fields; the State is left as it is. */
        private void lay(State s) {
            thereBits = 0;
            for (int g = 0; g < house.guestCount; g++) {
                if (isThere(s, g)) {
                    thereBits |= 1 << g;
                }
            }
            cooks = s.at[CHOSEN] == NONE ? house.dishByDay(s.at[DAY]) : s.at[CHOSEN];
            portions = Integer.bitCount(thereBits);
            serve(s);
            feedThose(s);
        }

        private void serve(State s) {
            int hand = s.at[HAND];
            int cookedOn = s.at[DAY] - hand;
            dish = NONE;
            servings = 0;
            if (hand == 0) {
                dish = cooks;
                servings = portions;
            } else if (cookedOn >= 0) {
                dish = s.at[COOKED_DISH + (cookedOn & COOKED_MASK)];
                servings = s.at[COOKED_PORTIONS + (cookedOn & COOKED_MASK)];
            }
            warmth = dish == NONE ? 0
                : Math.max(0, house.ofDish(dish, DISH_WARMTH) - house.rules[RULE_COLDER] * hand);
        }

        private void feedThose(State s) {
            int left = servings;
            fedBits = 0;
            for (int i = 0; i < house.guestCount; i++) {
                int g = house.byComing[i];
                boolean isFed = left > 0 && (thereBits >> g & 1) != 0;
                fedPortions[g] = isFed ? 1 : 0;
                if (isFed) {
                    fedBits |= 1 << g;
                    left--;
                }
            }
            for (int g = 0; g < house.guestCount && left > 0; g++) {
                int last = house.ofGuest(g, GUEST_COMES) + s.at[STAYS + g] - 1;
                if ((thereBits >> g & 1) != 0 && s.at[DAY] == last) {
                    fedPortions[g]++;
                    left--;
                }
            }
            thrownAway = left;
        }

        private void pass(State s) {
            lay(s);
            int slot = s.at[DAY] & COOKED_MASK;
            s.at[COOKED_DISH + slot] = cooks;
            s.at[COOKED_PORTIONS + slot] = portions;
            s.at[COINS] = Math.max(0, s.at[COINS] - portions * house.ofDish(cooks, DISH_COST));
            for (int g = 0; g < house.guestCount; g++) {
                if ((thereBits >> g & 1) != 0) {
                    gladden(s, g);
                }
            }
            s.at[CHOSEN] = NONE;
            s.at[DAY]++;
        }

        private void gladden(State s, int g) {
            boolean liked = dish != NONE && house.ofDish(dish, DISH_KIND) == s.at[LIKES + g];
            int pays = house.ofGuest(g, GUEST_PAYS);
            int day = s.at[DAY];
            int gain = joyBy(warmth, liked, fedPortions[g], day - house.ofGuest(g, GUEST_COMES), pays, day);
            int joy = Math.max(LEAST_JOY, Math.min(MOST_JOY, s.at[JOY + g] + gain));
            s.at[JOY + g] = joy;
            s.at[COINS] = Math.min(MOST_COINS, s.at[COINS] + pays);
            if (joy <= LEAVING_JOY) {
                s.at[LEFT] |= 1 << g;
            }
        }

        private int joyBy(int w, boolean liked, int f, int n, int p, int d) {
            if (law == null) {
                return f == 0 ? -2 : w / 3 + (liked ? 3 : 0);
            }
            letters[0] = w;
            letters[1] = liked ? 1 : 0;
            letters[2] = f;
            letters[3] = n;
            letters[4] = p;
            letters[5] = d;
            int worth = law.worth(letters);
            return Math.max(LEAST_GAIN, Math.min(MOST_GAIN, worth));
        }
    }

    /** What can be done to a State, by hand or by a STEP; what can't be is false and changes nothing. */
    private static final class Deeds {
        private final House house;
        private final Evening evening;

        private Deeds(House house, Evening evening) {
            this.house = house;
            this.evening = evening;
        }

        private boolean carryOut(State s, int what, int first, int second) {
            switch (what) {
                case DO_DAY:
                    if (s.at[DAY] >= LAST_DAY) {
                        return false;
                    }
                    evening.pass(s);
                    return true;
                case DO_CHOOSE:
                    return chooseDish(s, first);
                case DO_ILL:
                    return fallIll(s);
                case DO_MAKE_UP:
                    return makeHandUp(s);
                case DO_STAY:
                    return stayLonger(s, first, second);
                case DO_SIGN:
                    return likeAnother(s, first, second);
                default:
                    return false;
            }
        }

        private boolean chooseDish(State s, int dish) {
            if (!house.hasDish(dish) || s.at[CHOSEN] == dish) {
                return false;
            }
            s.at[CHOSEN] = dish;
            return true;
        }

        private boolean fallIll(State s) {
            if (s.at[HAND] >= MOST_HAND) {
                return false;
            }
            s.at[HAND]++;
            return true;
        }

        private boolean makeHandUp(State s) {
            if (s.at[HAND] <= 0 || s.at[COINS] < MAKE_UP_COST) {
                return false;
            }
            s.at[HAND]--;
            s.at[COINS] -= MAKE_UP_COST;
            return true;
        }

        private boolean stayLonger(State s, int guest, int n) {
            if (!house.hasGuest(guest) || s.hasLeft(guest) || n < 1 || n > 9
                || s.at[STAYS + guest] + n > MOST_STAY) {
                return false;
            }
            s.at[STAYS + guest] += n;
            return true;
        }

        private boolean likeAnother(State s, int guest, int kind) {
            if (!house.hasGuest(guest) || kind < 0 || kind >= KIND_COUNT || s.at[LIKES + guest] == kind) {
                return false;
            }
            s.at[LIKES + guest] = kind;
            return true;
        }
    }

    /** What is asked apart: every answer comes from copies of the State as it is. */
    private static final class Foresight {
        private static final int CHOICES = 4;
        private static final int PAIRS = CHOICES * CHOICES;
        private static final int GAME_DAYS = 8;
        private static final int DAYS_BEHIND_ROW = 3;
        private static final int LEVELS = 5;
        private final House house;
        private final Evening evening;
        private final Deeds deeds;
        private final State apart = new State();
        private final State[] levels = new State[LEVELS];
        private final int[] firstGains = new int[PAIRS];
        private final int[] secondGains = new int[PAIRS];
        private int joyGained = 0;
        private int bestRow = 0;
        private int bestJoy = 0;
        private int firstHas = 0;
        private int secondHas = 0;

        private Foresight(House house, Evening evening, Deeds deeds) {
            this.house = house;
            this.evening = evening;
            this.deeds = deeds;
            for (int i = 0; i < LEVELS; i++) {
                levels[i] = new State();
            }
        }

        private int stepsDone(State now, Week week) {
            apart.copyFrom(now);
            int done = 0;
            for (int i = 0; i < week.size; i++) {
                if (!deeds.carryOut(apart, week.ofStep(i, 0), week.ofStep(i, 1), week.ofStep(i, 2))) {
                    break;
                }
                done++;
            }
            joyGained = apart.joyOfAll() - now.joyOfAll();
            return done;
        }

        private void layAhead(State now, int n) {
            apart.copyFrom(now);
            for (int i = 0; i < n; i++) {
                evening.pass(apart);
            }
            evening.lay(apart);
        }

        private void seekBest(State now, int n) {
            levels[0].copyFrom(now);
            bestRow = 0;
            bestJoy = HIDDEN;
            tryRows(0, n, 0);
        }

        /** Rows come rising, so the first of several that are alike is the least. */
        private void tryRows(int level, int n, int row) {
            if (level + 1 >= LEVELS) {
                return;
            }
            State next = levels[level + 1];
            boolean whole = level + 1 >= n;
            for (int d = 0; d < house.dishCount; d++) {
                next.copyFrom(levels[level]);
                next.at[CHOSEN] = d;
                evening.pass(next);
                if (!whole) {
                    tryRows(level + 1, n, row * 10 + d);
                    continue;
                }
                for (int i = 0; i < DAYS_BEHIND_ROW; i++) {
                    evening.pass(next);
                }
                weighRow(row * 10 + d, next.joyOfAll());
            }
        }

        private void weighRow(int row, int joy) {
            if (joy > bestJoy) {
                bestJoy = joy;
                bestRow = row;
            }
        }

        private int fewestMadeUp(State now, int v) {
            apart.copyFrom(now);
            for (int k = 0; k <= now.at[HAND]; k++) {
                apart.at[HAND] = now.at[HAND] - k;
                evening.lay(apart);
                if (evening.dish != NONE && evening.warmth >= v) {
                    return k;
                }
            }
            return NONE;
        }

        private int daysToLeaving(State now, int guest) {
            apart.copyFrom(now);
            for (int n = 1; n <= LONG_AHEAD; n++) {
                evening.pass(apart);
                if (apart.hasLeft(guest)) {
                    return n;
                }
            }
            return NONE;
        }

        private int daysToNothing(State now) {
            apart.copyFrom(now);
            for (int n = 0; n <= LONG_AHEAD; n++) {
                evening.pass(apart);
                if (evening.thereBits != 0 && evening.fedBits == 0) {
                    return n;
                }
            }
            return NONE;
        }

        private int fullestDay(State now) {
            apart.copyFrom(now);
            int fullest = 0;
            int most = -1;
            for (int n = 0; n < MOST_AHEAD; n++) {
                evening.pass(apart);
                if (evening.portions > most) {
                    most = evening.portions;
                    fullest = n;
                }
            }
            return fullest;
        }

        private void play(State now, int one, int other, int x, int y) {
            apart.copyFrom(now);
            apart.at[STAYS + one] += x;
            apart.at[STAYS + other] += y;
            firstHas = 0;
            secondHas = 0;
            for (int i = 0; i < GAME_DAYS; i++) {
                evening.pass(apart);
                firstHas += gainBesideJoy(one);
                secondHas += gainBesideJoy(other);
            }
            firstHas += apart.at[JOY + one] - now.at[JOY + one];
            secondHas += apart.at[JOY + other] - now.at[JOY + other];
        }

        private int gainBesideJoy(int guest) {
            int gain = (evening.fedBits >> guest & 1) != 0 ? 2 : 0;
            return (evening.thereBits >> guest & 1) != 0 ? gain - house.ofGuest(guest, GUEST_PAYS) : gain;
        }

        private void playAll(State now, int one, int other) {
            for (int pair = 0; pair < PAIRS; pair++) {
                play(now, one, other, pair / CHOICES, pair % CHOICES);
                firstGains[pair] = firstHas;
                secondGains[pair] = secondHas;
            }
        }

        private boolean isRest(int x, int y) {
            int pair = x * CHOICES + y;
            for (int z = 0; z < CHOICES; z++) {
                if (firstGains[z * CHOICES + y] > firstGains[pair]
                    || secondGains[x * CHOICES + z] > secondGains[pair]) {
                    return false;
                }
            }
            return true;
        }

        private int restCount() {
            int sum = 0;
            for (int pair = 0; pair < PAIRS; pair++) {
                if (isRest(pair / CHOICES, pair % CHOICES)) {
                    sum++;
                }
            }
            return sum;
        }

        private int restAt(int i) {
            int passed = 0;
            for (int pair = 0; pair < PAIRS; pair++) {
                int x = pair / CHOICES;
                int y = pair % CHOICES;
                if (isRest(x, y)) {
                    if (passed == i) {
                        return 10 * x + y;
                    }
                    passed++;
                }
            }
            return NONE;
        }

        private long oddsOf(State now, int guest, int n, int chance) {
            levels[0].copyFrom(now);
            return partsFed(0, guest, n, chance, WHOLE);
        }

        private long partsFed(int level, int guest, int n, int chance, long part) {
            if (part == 0) {
                return 0;
            }
            if (level >= n || level + 1 >= LEVELS) {
                evening.lay(levels[level]);
                return (evening.fedBits >> guest & 1) != 0 ? part : 0;
            }
            State next = levels[level + 1];
            long sum = 0;
            long illPart = 0;
            next.copyFrom(levels[level]);
            if (deeds.carryOut(next, DO_ILL, NONE, NONE)) {
                illPart = part * chance / 100;
                evening.pass(next);
                sum = partsFed(level + 1, guest, n, chance, illPart);
            }
            next.copyFrom(levels[level]);
            evening.pass(next);
            return sum + partsFed(level + 1, guest, n, chance, part - illPart);
        }
    }

    /** What was SEEN, which KINDS that leaves, and which DISH tells them apart best. */
    private static final class Sights {
        private static final int ITEMS = 5;
        private final House house;
        private final Evening evening;
        private final int[] rows = new int[MOST_SEEN * ITEMS];
        private int count = 0;

        private Sights(House house, Evening evening) {
            this.house = house;
            this.evening = evening;
        }

        private int add(int guest, int dish, int w, int v, boolean had) {
            if (count >= MOST_SEEN) {
                return NONE;
            }
            int row = count * ITEMS;
            rows[row] = guest;
            rows[row + 1] = dish;
            rows[row + 2] = w;
            rows[row + 3] = v;
            rows[row + 4] = had ? 1 : 0;
            count++;
            return count;
        }

        private boolean hasJoy(int guest, int kind, int dish, int w, int v) {
            boolean liked = house.ofDish(dish, DISH_KIND) == kind;
            return evening.joyBy(w, liked, 1, 0, house.ofGuest(guest, GUEST_PAYS), 0) >= v;
        }

        private boolean mayLike(int guest, int kind) {
            for (int i = 0; i < count && i < MOST_SEEN; i++) {
                int row = i * ITEMS;
                if (rows[row] == guest
                    && hasJoy(guest, kind, rows[row + 1], rows[row + 2], rows[row + 3]) != (rows[row + 4] == 1)) {
                    return false;
                }
            }
            return true;
        }

        private int kindsLeft(int guest) {
            int bits = 0;
            for (int kind = 0; kind < KIND_COUNT; kind++) {
                if (mayLike(guest, kind)) {
                    bits |= 1 << kind;
                }
            }
            return bits;
        }

        private int dishToTry(int guest, int w, int v) {
            int left = kindsLeft(guest);
            if (left == 0) {
                return NONE;
            }
            int tried = NONE;
            int least = KIND_COUNT + 1;
            for (int d = 0; d < house.dishCount; d++) {
                int apart = Math.abs(lean(guest, left, d, w, v));
                if (apart < least) {
                    least = apart;
                    tried = d;
                }
            }
            return tried;
        }

        /** How many more of the KINDS left would have that JOY than would not. */
        private int lean(int guest, int left, int dish, int w, int v) {
            int more = 0;
            for (int kind = 0; kind < KIND_COUNT; kind++) {
                if ((left >> kind & 1) != 0) {
                    more += hasJoy(guest, kind, dish, w, v) ? 1 : -1;
                }
            }
            return more;
        }
    }
}
