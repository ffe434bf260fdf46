import java.util.ArrayList;
import java.util.List;
import java.util.NoSuchElementException;

/**
 * The document once more, as plainly as it can be said and without a thought of what it costs:
 * everything is kept, texts are read sign by sign with a state, laws are worked out from their texts.
 */
final class Model {
    private static final int NONE = -1;
    private static final int HIDDEN = -1000000;

    private static final class World {
        int day = 0;
        int hand;
        int coins;
        int chosen = NONE;
        int[] stays = new int[6];
        int[] likes = new int[6];
        int[] joy = new int[6];
        boolean[] left = new boolean[6];
        List<int[]> cooked = new ArrayList<>();
        List<int[]> log = new ArrayList<>();

        World copy() {
            World w = new World();
            w.day = day;
            w.hand = hand;
            w.coins = coins;
            w.chosen = chosen;
            w.stays = stays.clone();
            w.likes = likes.clone();
            w.joy = joy.clone();
            w.left = left.clone();
            w.cooked = new ArrayList<>(cooked);
            w.log = new ArrayList<>(log);
            return w;
        }

        int allJoy() {
            int sum = 0;
            for (int j : joy) {
                sum += j;
            }
            return sum;
        }
    }

    private String tape = "";
    private int colder;
    private List<int[]> dishes = new ArrayList<>();
    private List<int[]> guests = new ArrayList<>();
    private final List<String> laws = new ArrayList<>();
    private final List<String> weeks = new ArrayList<>();
    private int holds = NONE;
    private int feverNow = 1;
    private World world = null;
    private World pictured = null;
    private List<World> acts = new ArrayList<>();
    private List<int[]> sights = new ArrayList<>();

    // ---- texts ----

    public int feed(int a, int b, int c, int d, int e) {
        StringBuilder more = new StringBuilder();
        for (int four : new int[] {a, b, c, d, e}) {
            for (int i = 3; i >= 0; i--) {
                int sign = (four >> (8 * i)) & 0xff;
                if (sign > 0) {
                    more.append((char) sign);
                }
            }
        }
        if (tape.length() + more.length() > 240) {
            return NONE;
        }
        tape += more;
        return tape.length();
    }

    public boolean end(int n) {
        if (n < 0 || n > tape.length()) {
            return false;
        }
        tape = tape.substring(0, n);
        return true;
    }

    public int fault(int sort) {
        switch (sort) {
            case 0:
                return houseFault(tape);
            case 1:
                return lawFault(tape);
            case 2:
                return weekFault(tape);
            default:
                return -2;
        }
    }

    /** Sign by sign: c a clause is to come, i an item or the clause's end, n a number, digits within it. */
    static int houseFault(String text) {
        char state = 'c';
        char clause = ' ';
        String had = "";
        char item = ' ';
        int digitsFrom = -1;
        int rules = 0;
        int dishCount = 0;
        int guestCount = 0;
        for (int i = 0; i <= text.length(); i++) {
            boolean over = i == text.length();
            char sign = over ? ';' : text.charAt(i);
            if (digitsFrom >= 0) {
                if (!over && Character.isDigit(sign) && sign < 128) {
                    if (i - digitsFrom == 2) {
                        return i;
                    }
                    continue;
                }
                int value = Integer.parseInt(text.substring(digitsFrom, i));
                if (!within(clause, item, value)) {
                    return i - 1;
                }
                digitsFrom = -1;
                state = 'i';
            }
            if (over) {
                return state == 'i' && dishCount > 0 && guestCount > 0 ? NONE : i;
            }
            if (sign == ' ') {
                continue;
            }
            if (state == 'c') {
                rules += sign == 's' ? 1 : 0;
                dishCount += sign == 'd' ? 1 : 0;
                guestCount += sign == 'g' ? 1 : 0;
                if ("sdg".indexOf(sign) < 0 || rules > 1 || dishCount > 5 || guestCount > 6) {
                    return i;
                }
                clause = sign;
                had = "";
                state = 'i';
            } else if (state == 'i') {
                if (sign == ';') {
                    state = 'c';
                } else if (itemsOf(clause).indexOf(sign) < 0 || had.indexOf(sign) >= 0) {
                    return i;
                } else {
                    item = sign;
                    had += sign;
                    state = 'n';
                }
            } else {
                if (sign < '0' || sign > '9') {
                    return i;
                }
                digitsFrom = i;
            }
        }
        throw new IllegalStateException();
    }

    private static String itemsOf(char clause) {
        return clause == 's' ? "lhc" : clause == 'd' ? "wck" : "aslp";
    }

    private static boolean within(char clause, char item, int value) {
        String key = "" + clause + item;
        int least = key.equals("gs") ? 1 : 0;
        int most;
        switch (key) {
            case "sl": case "dk": case "gl":
                most = 3;
                break;
            case "sh": case "dc": case "gp":
                most = 9;
                break;
            case "sc":
                most = 99;
                break;
            default:
                most = 20;
        }
        return value >= least && value <= most;
    }

    static int weekFault(String text) {
        int steps = 0;
        int digits = 0;
        boolean behind = false;
        for (int i = 0; i < text.length(); i++) {
            char sign = text.charAt(i);
            if (sign == ' ') {
                continue;
            }
            if (digits > 0) {
                if (sign < '0' || sign > '9') {
                    return i;
                }
                digits--;
            } else if (behind) {
                if (sign != ';' || steps == 16) {
                    return i;
                }
                behind = false;
            } else {
                if ("dciux".indexOf(sign) < 0) {
                    return i;
                }
                digits = sign == 'c' ? 1 : sign == 'x' ? 2 : 0;
                steps++;
                behind = true;
            }
        }
        return behind && digits == 0 ? NONE : text.length();
    }

    /**
     * Sign by sign with a row of what is open: each ( [ ! as it came. part: h a clause's head, l a SUM left of
     * a comparison, r one right of it, v a clause's worth; behind a ) it is u. operand: one is to come.
     */
    static int lawFault(String text) {
        String open = "";
        String parts = "";
        char part = 'y';
        boolean operand = true;
        boolean fresh = true;
        int digits = 0;
        for (int i = 0; i < text.length(); i++) {
            char sign = text.charAt(i);
            boolean isDigit = sign >= '0' && sign <= '9';
            if (digits > 0 && isDigit) {
                digits++;
                if (digits > 4) {
                    return i;
                }
                continue;
            }
            digits = 0;
            if (sign == ' ') {
                continue;
            }
            if (part == 'y' || part == ':') {
                if (sign != part) {
                    return i;
                }
                part = sign == 'y' ? ':' : 'h';
                operand = true;
                fresh = true;
            } else if (operand) {
                boolean unit = fresh && (part == 'h' || part == 'l');
                if (isDigit || "wlfnpd".indexOf(sign) >= 0) {
                    digits = isDigit ? 1 : 0;
                    operand = false;
                    fresh = false;
                } else if (sign == '[' || unit && (sign == '(' || sign == '!')) {
                    if (open.length() == 6) {
                        return i;
                    }
                    part = sign != '[' && part == 'h' ? 'l' : part;
                    open += sign;
                    parts += part;
                    fresh = sign != '[';
                } else {
                    return i;
                }
            } else {
                boolean bracket = open.endsWith("[");
                boolean isSum = part != 'u';
                if (isSum && "+-*/".indexOf(sign) >= 0) {
                    operand = true;
                } else if (bracket) {
                    if (sign != ']') {
                        return i;
                    }
                    open = open.substring(0, open.length() - 1);
                    part = parts.charAt(parts.length() - 1);
                    parts = parts.substring(0, parts.length() - 1);
                } else if ((part == 'h' || part == 'l') && "=<>".indexOf(sign) >= 0) {
                    part = 'r';
                    operand = true;
                } else if ((part == 'r' || part == 'u') && "&|?)".indexOf(sign) >= 0) {
                    while (open.endsWith("!")) {
                        open = open.substring(0, open.length() - 1);
                        parts = parts.substring(0, parts.length() - 1);
                    }
                    if (sign == ')') {
                        if (!open.endsWith("(")) {
                            return i;
                        }
                        open = open.substring(0, open.length() - 1);
                        parts = parts.substring(0, parts.length() - 1);
                        part = 'u';
                    } else {
                        if (sign == '?' && !open.isEmpty()) {
                            return i;
                        }
                        part = sign == '?' ? 'v' : 'l';
                        operand = true;
                        fresh = true;
                    }
                } else if (sign == ';' && (part == 'h' || part == 'v') && open.isEmpty()) {
                    part = 'y';
                } else {
                    return i;
                }
            }
        }
        return !operand && open.isEmpty() && (part == 'h' || part == 'v') ? NONE : text.length();
    }

    public int text(int sort) {
        if (sort < 0 || sort > 2 || fault(sort) != NONE) {
            return NONE;
        }
        String plain = tape.replace(" ", "");
        if (sort == 0) {
            tape = "";
            return moveIn(plain);
        }
        List<String> row = sort == 1 ? laws : weeks;
        if (row.size() == 4) {
            return NONE;
        }
        tape = "";
        row.add(plain);
        return row.size() - 1;
    }

    private int moveIn(String plain) {
        dishes = new ArrayList<>();
        guests = new ArrayList<>();
        sights = new ArrayList<>();
        acts = new ArrayList<>();
        pictured = null;
        world = new World();
        world.hand = 1;
        world.coins = 20;
        colder = 3;
        for (String clause : plain.split(";")) {
            if (clause.startsWith("s")) {
                world.hand = item(clause, 'l', 1);
                colder = item(clause, 'h', 3);
                world.coins = item(clause, 'c', 20);
            } else if (clause.startsWith("d")) {
                dishes.add(new int[] {item(clause, 'w', 12), item(clause, 'c', 2), item(clause, 'k', 0)});
            } else {
                int g = guests.size();
                guests.add(new int[] {item(clause, 'a', 0), item(clause, 'p', 3)});
                world.stays[g] = item(clause, 's', 7);
                world.likes[g] = item(clause, 'l', 0);
            }
        }
        return guests.size();
    }

    private static int item(String clause, char letter, int usual) {
        int at = clause.indexOf(letter, 1);
        if (at < 0) {
            return usual;
        }
        int to = at + 1;
        while (to < clause.length() && Character.isDigit(clause.charAt(to))) {
            to++;
        }
        return Integer.parseInt(clause.substring(at + 1, to));
    }

    // ---- laws ----

    private int gain(int w, int l, int f, int n, int p, int d) {
        int worth;
        if (holds == NONE) {
            worth = f == 0 ? -2 : w / 3 + 3 * l;
        } else {
            worth = worth(laws.get(holds), new int[] {w, l, f, n, p, d});
        }
        return Math.max(-9, Math.min(20, worth));
    }

    private static int worth(String law, int[] letters) {
        for (String clause : law.split(";")) {
            String body = clause.substring(2);
            int ask = body.indexOf('?');
            if (ask < 0 || truth(body.substring(0, ask), letters)) {
                return number(body.substring(ask + 1), letters);
            }
        }
        return 0;
    }

    /** Where one of these signs stands last outside of all brackets. */
    private static int lastOutside(String text, String signs) {
        int depth = 0;
        for (int i = text.length() - 1; i >= 0; i--) {
            char sign = text.charAt(i);
            if (sign == ')' || sign == ']') {
                depth++;
            } else if (sign == '(' || sign == '[') {
                depth--;
            } else if (depth == 0 && signs.indexOf(sign) >= 0) {
                return i;
            }
        }
        return -1;
    }

    private static boolean truth(String text, int[] letters) {
        int at = lastOutside(text, "|");
        if (at >= 0) {
            return truth(text.substring(0, at), letters) | truth(text.substring(at + 1), letters);
        }
        at = lastOutside(text, "&");
        if (at >= 0) {
            return truth(text.substring(0, at), letters) & truth(text.substring(at + 1), letters);
        }
        if (text.startsWith("!")) {
            return !truth(text.substring(1), letters);
        }
        if (text.startsWith("(")) {
            return truth(text.substring(1, text.length() - 1), letters);
        }
        at = lastOutside(text, "=<>");
        int a = number(text.substring(0, at), letters);
        int b = number(text.substring(at + 1), letters);
        return text.charAt(at) == '=' ? a == b : text.charAt(at) == '<' ? a < b : a > b;
    }

    private static int number(String text, int[] letters) {
        int at = lastOutside(text, "+-");
        if (at < 0) {
            at = lastOutside(text, "*/");
        }
        if (at >= 0) {
            long a = number(text.substring(0, at), letters);
            long b = number(text.substring(at + 1), letters);
            char sign = text.charAt(at);
            long c = sign == '+' ? a + b : sign == '-' ? a - b : sign == '*' ? a * b : b == 0 ? 0 : a / b;
            return (int) Math.max(-1000000, Math.min(1000000, c));
        }
        if (text.startsWith("[")) {
            return number(text.substring(1, text.length() - 1), letters);
        }
        int letter = "wlfnpd".indexOf(text.charAt(0));
        return letter >= 0 ? letters[letter] : Integer.parseInt(text);
    }

    // ---- days ----

    private boolean isThere(World w, int g) {
        int comes = guests.get(g)[0];
        return !w.left[g] && w.day >= comes && w.day < comes + w.stays[g];
    }

    private int thereBits(World w) {
        int bits = 0;
        for (int g = 0; g < guests.size(); g++) {
            bits += isThere(w, g) ? 1 << g : 0;
        }
        return bits;
    }

    private int cooks(World w) {
        return w.chosen != NONE ? w.chosen : w.day % dishes.size();
    }

    /** The dish, its warmth, its portions; null for nothing. */
    private int[] served(World w) {
        List<int[]> cooked = new ArrayList<>(w.cooked);
        cooked.add(new int[] {cooks(w), Integer.bitCount(thereBits(w))});
        int when = w.day - w.hand;
        if (when < 0) {
            return null;
        }
        int[] then = cooked.get(when);
        int warmth = dishes.get(then[0])[0];
        for (int i = 0; i < w.hand; i++) {
            warmth -= colder;
        }
        return new int[] {then[0], Math.max(0, warmth), then[1]};
    }

    /** Of each guest the portions; behind them what is thrown away. */
    private int[] portions(World w) {
        int[] fed = new int[7];
        int[] served = served(w);
        int rest = served == null ? 0 : served[2];
        List<Integer> row = new ArrayList<>();
        for (int g = 0; g < guests.size(); g++) {
            if (isThere(w, g)) {
                row.add(g);
            }
        }
        List<Integer> byNumber = new ArrayList<>(row);
        row.sort((a, b) -> guests.get(a)[0] != guests.get(b)[0] ? guests.get(a)[0] - guests.get(b)[0] : a - b);
        for (int g : row) {
            if (rest > 0) {
                fed[g]++;
                rest--;
            }
        }
        for (int g : byNumber) {
            if (rest > 0 && w.day + 1 == guests.get(g)[0] + w.stays[g]) {
                fed[g]++;
                rest--;
            }
        }
        fed[6] = rest;
        return fed;
    }

    private int fedBits(World w) {
        int[] fed = portions(w);
        int bits = 0;
        for (int g = 0; g < 6; g++) {
            bits += fed[g] > 0 ? 1 << g : 0;
        }
        return bits;
    }

    private void pass(World w) {
        int[] served = served(w);
        int[] fed = portions(w);
        int bits = fedBits(w);
        int there = thereBits(w);
        int cooked = cooks(w);
        w.cooked.add(new int[] {cooked, Integer.bitCount(there)});
        w.coins = Math.max(0, w.coins - dishes.get(cooked)[1] * Integer.bitCount(there));
        for (int g = 0; g < guests.size(); g++) {
            if ((there >> g & 1) == 0) {
                continue;
            }
            int l = served != null && dishes.get(served[0])[2] == w.likes[g] ? 1 : 0;
            int warmth = served == null ? 0 : served[1];
            int more = gain(warmth, l, fed[g], w.day - guests.get(g)[0], guests.get(g)[1], w.day);
            w.joy[g] = Math.max(-99, Math.min(999, w.joy[g] + more));
            w.coins = Math.min(999, w.coins + guests.get(g)[1]);
            w.left[g] = w.joy[g] <= -10;
        }
        w.log.add(new int[] {served == null ? NONE : served[0], bits, w.allJoy()});
        w.chosen = NONE;
        w.day++;
    }

    private World ahead(int n) {
        World w = world.copy();
        for (int i = 0; i < n; i++) {
            pass(w);
        }
        return w;
    }

    // ---- what is told ----

    public int rule(int what) {
        if (world == null || what < 0 || what > 2) {
            return NONE;
        }
        return new int[] {world.hand, colder, world.coins}[what];
    }

    private boolean isDish(int dish) {
        return dish >= 0 && dish < dishes.size();
    }

    private boolean isGuest(int guest) {
        return guest >= 0 && guest < guests.size();
    }

    public int dish(int dish, int what) {
        return isDish(dish) && what >= 0 && what <= 2 ? dishes.get(dish)[what] : NONE;
    }

    public int guest(int g, int what) {
        if (!isGuest(g) || what < 0 || what > 5) {
            throw new NoSuchElementException();
        }
        return new int[] {guests.get(g)[0], world.stays[g], world.likes[g], guests.get(g)[1], world.joy[g],
            world.left[g] ? 1 : 0}[what];
    }

    public boolean law(int law) {
        if (law < -1 || law >= laws.size()) {
            return false;
        }
        holds = law;
        return true;
    }

    public boolean fever(int v) {
        if (v < 0 || v > 9 || v == feverNow) {
            return false;
        }
        feverNow = v;
        return true;
    }

    // ---- acts ----

    private static int[] parsed(String step) {
        int[] three = {"dciux".indexOf(step.charAt(0)), NONE, NONE};
        for (int k = 1; k < step.length(); k++) {
            three[k] = step.charAt(k) - '0';
        }
        return three;
    }

    private boolean can(World w, int what, int a, int b) {
        switch (what) {
            case 0:
                return w.day < 999;
            case 1:
                return isDish(a) && w.chosen != a;
            case 2:
                return w.hand < 3;
            case 3:
                return w.hand > 0 && w.coins >= 5;
            case 4:
                return isGuest(a) && !w.left[a] && b >= 1 && b <= 9 && w.stays[a] + b <= 99;
            default:
                return isGuest(a) && b >= 0 && b <= 3 && w.likes[a] != b;
        }
    }

    private void make(World w, int what, int a, int b) {
        switch (what) {
            case 0:
                pass(w);
                break;
            case 1:
                w.chosen = a;
                break;
            case 2:
                w.hand++;
                break;
            case 3:
                w.hand--;
                w.coins -= 5;
                break;
            case 4:
                w.stays[a] += b;
                break;
            default:
                w.likes[a] = b;
        }
    }

    private void keep() {
        acts.add(world.copy());
        if (acts.size() > 40) {
            acts.remove(0);
        }
    }

    private boolean act(int what, int a, int b) {
        if (world == null || !can(world, what, a, b)) {
            return false;
        }
        keep();
        make(world, what, a, b);
        return true;
    }

    public int day() {
        return act(0, 0, 0) ? Integer.bitCount(world.log.get(world.log.size() - 1)[1]) : NONE;
    }

    public int choose(int dish) {
        int was = world == null ? NONE : world.chosen;
        return act(1, dish, 0) ? was : -2;
    }

    public int ill() {
        return act(2, 0, 0) ? world.hand : NONE;
    }

    public int makeUp() {
        return act(3, 0, 0) ? world.hand : NONE;
    }

    public int stay(int guest, int n) {
        return act(4, guest, n) ? world.stays[guest] : NONE;
    }

    public int sign(int guest, int kind) {
        int was = world != null && isGuest(guest) ? world.likes[guest] : NONE;
        return act(5, guest, kind) ? was : NONE;
    }

    public int years(int n, long seed) {
        if (world == null || n < 1 || n > 30 || world.day + n > 999) {
            return NONE;
        }
        long[] x = {seed};
        for (int i = 0; i < n; i++) {
            keep();
            if (draw(x, 10) < feverNow && can(world, 2, 0, 0)) {
                make(world, 2, 0, 0);
            }
            world.chosen = draw(x, dishes.size());
            if (draw(x, 10) >= 8) {
                int g = draw(x, guests.size());
                if (can(world, 4, g, 2)) {
                    make(world, 4, g, 2);
                }
            }
            pass(world);
        }
        return world.day;
    }

    private static int draw(long[] x, int j) {
        x[0] = x[0] * 6364136223846793005L + 1442695040888963407L;
        return (int) ((x[0] >>> 33) % j);
    }

    public int undo() {
        if (acts.isEmpty()) {
            return NONE;
        }
        world = acts.remove(acts.size() - 1);
        return acts.size();
    }

    public int log(int i, int what) {
        if (world == null || i < 0 || i >= Math.min(60, world.log.size()) || what < 0 || what > 2) {
            return HIDDEN;
        }
        return world.log.get(world.log.size() - 1 - i)[what];
    }

    public int step(int week, int i, int what) {
        if (week < 0 || week >= weeks.size() || what < 0 || what > 2) {
            return HIDDEN;
        }
        String[] steps = weeks.get(week).split(";");
        return i < 0 || i >= steps.length ? HIDDEN : parsed(steps[i])[what];
    }

    public int run(int week, int what) {
        if (world == null || week < 0 || week >= weeks.size() || what < 0 || what > 1) {
            return HIDDEN;
        }
        World w = world.copy();
        String[] steps = weeks.get(week).split(";");
        int done = 0;
        while (done < steps.length) {
            int[] s = parsed(steps[done]);
            if (!can(w, s[0], s[1], s[2])) {
                break;
            }
            make(w, s[0], s[1], s[2]);
            done++;
        }
        return what == 1 ? w.allJoy() - world.allJoy() : done == steps.length ? NONE : done;
    }

    public int perform(int week) {
        if (world == null || week < 0 || week >= weeks.size()) {
            return NONE;
        }
        int done = 0;
        for (String step : weeks.get(week).split(";")) {
            int[] s = parsed(step);
            if (!act(s[0], s[1], s[2])) {
                break;
            }
            done++;
        }
        return done;
    }

    // ---- what is asked ----

    public int serves(int n, int what) {
        if (world == null || n < 0 || n > 20 || what < 0 || what > 2) {
            return NONE;
        }
        int[] served = served(ahead(n));
        return served == null ? NONE : served[what];
    }

    public int there(int n) {
        return world == null || n < 0 || n > 20 ? NONE : thereBits(ahead(n));
    }

    public int fed(int guest) {
        return isGuest(guest) && isThere(world, guest) ? portions(world)[guest] : NONE;
    }

    public int best(int n, int what) {
        if (world == null || n < 1 || n > 3 || what < 0 || what > 1) {
            return HIDDEN;
        }
        int bestRow = NONE;
        int bestJoy = 0;
        int rows = n == 1 ? 10 : n == 2 ? 100 : 1000;
        for (int row = 0; row < rows; row++) {
            String digits = ("000" + row).substring(("000" + row).length() - n);
            World w = world.copy();
            boolean all = true;
            for (char digit : digits.toCharArray()) {
                all &= isDish(digit - '0');
            }
            if (!all) {
                continue;
            }
            for (int i = 0; i < n + 3; i++) {
                w.chosen = i < n ? digits.charAt(i) - '0' : NONE;
                pass(w);
            }
            if (bestRow == NONE || w.allJoy() > bestJoy) {
                bestRow = row;
                bestJoy = w.allJoy();
            }
        }
        return what == 0 ? bestRow : bestJoy;
    }

    public int madeUp(int v) {
        if (world == null || v < 0 || v > 20) {
            return NONE;
        }
        World w = world.copy();
        for (int k = 0; k <= world.hand; k++) {
            int[] served = served(w);
            if (served != null && served[1] >= v) {
                return k;
            }
            w.hand--;
        }
        return NONE;
    }

    public int seen(int guest, int dish, int w, int v, boolean had) {
        if (!isGuest(guest) || !isDish(dish) || w < 0 || w > 20 || v < -9 || v > 20 || sights.size() == 10) {
            return NONE;
        }
        sights.add(new int[] {guest, dish, w, v, had ? 1 : 0});
        return sights.size();
    }

    private boolean joyful(int guest, int kind, int dish, int w, int v) {
        return gain(w, dishes.get(dish)[2] == kind ? 1 : 0, 1, 0, guests.get(guest)[1], 0) >= v;
    }

    public int likes(int guest) {
        if (!isGuest(guest)) {
            return NONE;
        }
        int bits = 15;
        for (int[] s : sights) {
            for (int kind = 0; kind < 4; kind++) {
                if (s[0] == guest && joyful(guest, kind, s[1], s[2], s[3]) != (s[4] == 1)) {
                    bits &= ~(1 << kind);
                }
            }
        }
        return bits;
    }

    public int probe(int guest, int w, int v) {
        if (!isGuest(guest) || w < 0 || w > 20 || v < -9 || v > 20 || likes(guest) == 0) {
            return NONE;
        }
        int bits = likes(guest);
        int found = NONE;
        int least = 99;
        for (int d = 0; d < dishes.size(); d++) {
            int yes = 0;
            int no = 0;
            for (int kind = 0; kind < 4; kind++) {
                if ((bits >> kind & 1) == 1) {
                    if (joyful(guest, kind, d, w, v)) {
                        yes++;
                    } else {
                        no++;
                    }
                }
            }
            if (Math.abs(yes - no) < least) {
                least = Math.abs(yes - no);
                found = d;
            }
        }
        return found;
    }

    public int leaves(int guest) {
        if (!isGuest(guest) || world.left[guest]) {
            return NONE;
        }
        World w = world.copy();
        for (int n = 1; n <= 60; n++) {
            pass(w);
            if (w.left[guest]) {
                return n;
            }
        }
        return NONE;
    }

    private boolean players(int one, int other) {
        return isGuest(one) && isGuest(other) && one != other && !world.left[one] && !world.left[other];
    }

    public int game(int one, int other, int x, int y, int what) {
        if (!players(one, other) || x < 0 || x > 3 || y < 0 || y > 3 || what < 0 || what > 1) {
            return HIDDEN;
        }
        World w = world.copy();
        w.stays[one] += x;
        w.stays[other] += y;
        int who = what == 0 ? one : other;
        int has = -w.joy[who];
        for (int i = 0; i < 8; i++) {
            has -= isThere(w, who) ? guests.get(who)[1] : 0;
            has += portions(w)[who] > 0 ? 2 : 0;
            pass(w);
        }
        return has + w.joy[who];
    }

    public int rests(int one, int other, int i) {
        if (!players(one, other)) {
            return NONE;
        }
        List<Integer> found = new ArrayList<>();
        for (int x = 0; x < 4; x++) {
            for (int y = 0; y < 4; y++) {
                boolean rest = true;
                for (int z = 0; z < 4; z++) {
                    rest &= game(one, other, z, y, 0) <= game(one, other, x, y, 0);
                    rest &= game(one, other, x, z, 1) <= game(one, other, x, y, 1);
                }
                if (rest) {
                    found.add(10 * x + y);
                }
            }
        }
        return i == NONE ? found.size() : i < 0 || i >= found.size() ? NONE : found.get(i);
    }

    public int odds(int guest, int n, int chance) {
        if (!isGuest(guest) || n < 0 || n > 4 || chance < 0 || chance > 100) {
            return NONE;
        }
        List<World> worlds = new ArrayList<>();
        List<Long> parts = new ArrayList<>();
        worlds.add(world.copy());
        parts.add(1000000000L);
        for (int i = 0; i < n; i++) {
            List<World> nextWorlds = new ArrayList<>();
            List<Long> nextParts = new ArrayList<>();
            for (int k = 0; k < worlds.size(); k++) {
                World well = worlds.get(k);
                long part = parts.get(k);
                if (well.hand < 3) {
                    World ill = well.copy();
                    ill.hand++;
                    pass(ill);
                    nextWorlds.add(ill);
                    nextParts.add(part * chance / 100);
                    part -= part * chance / 100;
                }
                pass(well);
                nextWorlds.add(well);
                nextParts.add(part);
            }
            worlds = nextWorlds;
            parts = nextParts;
        }
        long sum = 0;
        for (int k = 0; k < worlds.size(); k++) {
            sum += portions(worlds.get(k))[guest] > 0 ? parts.get(k) : 0;
        }
        return (int) sum;
    }

    public int all(int what) {
        if (world == null || what < 0 || what > 12) {
            return NONE;
        }
        int found = 0;
        switch (what) {
            case 0: case 1: case 2:
                for (int g = 0; g < guests.size(); g++) {
                    found = ofGuest(g, what) > ofGuest(found, what) ? g : found;
                }
                return found;
            case 3: case 4: case 5:
                for (int d = 0; d < dishes.size(); d++) {
                    found = ofDish(d, what) > ofDish(found, what) ? d : found;
                }
                return found;
            case 6:
                return portions(world)[6];
            case 7:
                found = NONE;
                for (int g = 0; g < guests.size(); g++) {
                    found = world.left[g] ? found : Math.max(found, guests.get(g)[0] + world.stays[g] - 1);
                }
                return found;
            case 8:
                for (int g = 0; g < guests.size(); g++) {
                    found += isThere(world, g) ? guests.get(g)[1] : 0;
                }
                return found;
            case 9:
                return cooks(world);
            case 10:
                return thereBits(world) & ~fedBits(world);
            case 11:
                for (int n = 0; n <= 60; n++) {
                    World w = ahead(n);
                    if (thereBits(w) != 0 && fedBits(w) == 0) {
                        return n;
                    }
                }
                return NONE;
            default:
                for (int n = 1; n < 20; n++) {
                    found = Integer.bitCount(there(n)) > Integer.bitCount(there(found)) ? n : found;
                }
                return found;
        }
    }

    private int ofGuest(int g, int what) {
        return what == 0 ? world.joy[g] : what == 1 ? world.stays[g] : guests.get(g)[1];
    }

    private int ofDish(int d, int what) {
        int friends = 0;
        for (int g = 0; g < guests.size(); g++) {
            friends += isThere(world, g) && world.likes[g] == dishes.get(d)[2] ? 1 : 0;
        }
        return what == 3 ? dishes.get(d)[0] : what == 4 ? -dishes.get(d)[1] : friends;
    }

    public int kinds(int kind) {
        if (world == null || kind < 0 || kind > 3) {
            return NONE;
        }
        int bits = 0;
        for (int d = 0; d < dishes.size(); d++) {
            bits += dishes.get(d)[2] == kind ? 1 << d : 0;
        }
        return bits;
    }

    public int staying(int guest) {
        if (!isGuest(guest)) {
            return NONE;
        }
        int days = 0;
        World w = world.copy();
        for (int i = 0; i < 200; i++) {
            days += isThere(w, guest) ? 1 : 0;
            w.day++;
        }
        return days;
    }

    public int image() {
        if (world == null) {
            return NONE;
        }
        pictured = world.copy();
        return world.day;
    }

    public int back() {
        if (pictured == null) {
            return NONE;
        }
        world = pictured.copy();
        acts = new ArrayList<>();
        return world.day;
    }

    public int count(int what) {
        int left = 0;
        for (int g = 0; world != null && g < 6; g++) {
            left += world.left[g] ? 1 << g : 0;
        }
        int[] all = {guests.size(), dishes.size(), laws.size(), weeks.size(), tape.length(), holds,
            world == null ? 0 : world.day, world == null ? 0 : world.allJoy(), left, feverNow, sights.size(),
            world == null ? 0 : Math.min(60, world.log.size()), acts.size()};
        return what < 0 || what >= all.length ? HIDDEN : all[what];
    }
}
