import java.math.BigInteger;

/**
 * The boundaries that the document names for ACTS, YEARS and IMAGES (==== 2, ==== 4, promises 12 to 18, 22, 38 to
 * 40), a sentence at a time: each CHECK.of says which. The answers were worked out from the document's words.
 */
public final class BoundsOfActsTest {
    private static final int HIDDEN = -1000000;
    private static final int LOWEST = Integer.MIN_VALUE;
    private static final int HIGHEST = Integer.MAX_VALUE;
    private static final Check CHECK = new Check("BoundsOfActsTest");

    public static void main(String[] args) {
        choosing();
        falling();
        makingUp();
        staying();
        stayingLongest();
        signs();
        fortyActs();
        undoneOneByOne();
        undoneLog();
        performing();
        performedToTheEnd();
        yearsWithin();
        yearsBeyond();
        draws();
        feverOfYears();
        whatCanNotBe();
        yearsAsActs();
        images();
        imagesKeep();
        imagesOfOtherHouses();
        imageAtTheEnd();
        counts();
        lastCall();
        CHECK.finish();
    }

    // ---- ==== 2: by hand, promises 12 to 16 ----

    private static void choosing() {
        CHECK.of("P12: A DISH is CHOSEN: what was (NONE: none)");
        GongHouse x = Check.house("sl0;d;d;d;d;d;g");
        CHECK.due("none was", x.choose(0), -1);
        CHECK.due("the first was", x.choose(4), 0);
        CHECK.due("the last was", x.choose(0), 4);
        CHECK.of("P12: -2: no such one, it is so");
        for (int dish : new int[] {0, -1, 5, LOWEST, HIGHEST}) {
            CHECK.due("choose(" + dish + ")", x.choose(dish), -2);
        }
        CHECK.due("three ACTS", x.count(12), 3);
        CHECK.due("a second of one", Check.house("d;g").choose(1), -2);
        CHECK.due("no HOUSE", new GongHouse().choose(0), -2);
        CHECK.due("no HOUSE", new GongHouse().choose(-1), -2);
        CHECK.of("==== 2: a DISH is CHOSEN for this DAY (on the next none is)");
        x.day();
        CHECK.due("none was", x.choose(0), -1);
        x.undo();
        CHECK.due("the one that is COOKED anyway can be CHOSEN", x.choose(1), -1);
    }

    private static void falling() {
        CHECK.of("==== 2, P13: ILL: the HAND is one more (3 at most): the HAND then; NONE: no HOUSE, three");
        GongHouse x = Check.house("sl0;d;g");
        for (int hand = 1; hand <= 3; hand++) {
            CHECK.due("ill()", x.ill(), hand);
            CHECK.due("HAND", x.rule(0), hand);
        }
        CHECK.due("three", x.ill(), -1);
        CHECK.due("HAND", x.rule(0), 3);
        CHECK.due("three ACTS", x.count(12), 3);
        CHECK.due("three as told", Check.house("sl3;d;g").ill(), -1);
        CHECK.due("no HOUSE", new GongHouse().ill(), -1);
    }

    private static void makingUp() {
        CHECK.of("==== 2, P14: made UP: one less (0 at least); NONE: no HOUSE, none");
        GongHouse x = Check.house("sl3c99;d;g");
        for (int hand = 2; hand >= 0; hand--) {
            CHECK.due("makeUp()", x.makeUp(), hand);
            CHECK.due("COINS", x.rule(2), 99 - 5 * (3 - hand));
        }
        CHECK.due("none", x.makeUp(), -1);
        CHECK.due("COINS", x.rule(2), 84);
        CHECK.due("three ACTS", x.count(12), 3);
        CHECK.due("no HOUSE", new GongHouse().makeUp(), -1);
        CHECK.of("==== 2, P14: (5 COINS); NONE: too few COINS");
        int[] coins = {0, 4, 5, 6, 9, 10};
        for (int c : coins) {
            GongHouse y = Check.house("sl3c" + c + ";d;g");
            CHECK.due("of " + c, y.makeUp(), c >= 5 ? 2 : -1);
            CHECK.due("left of " + c, y.rule(2), c >= 5 ? c - 5 : c);
            CHECK.due("again of " + c, y.makeUp(), c >= 10 ? 1 : -1);
            CHECK.due("HAND", y.rule(0), c >= 10 ? 1 : c >= 5 ? 2 : 3);
        }
    }

    private static void staying() {
        CHECK.of("==== 2, P15: STAYS n (1 .. 9) DAYS longer: how many DAYS in all; NONE: out of bounds");
        for (int n : new int[] {0, -1, 10, 99, LOWEST, HIGHEST}) {
            GongHouse x = Check.house("d;gs4");
            CHECK.due("stay(0, " + n + ")", x.stay(0, n), -1);
            CHECK.due("as told", Check.guest(x, 0, 1), 4);
            CHECK.due("no ACT", x.count(12), 0);
        }
        for (int n = 1; n <= 9; n++) {
            GongHouse x = Check.house("d;gs4");
            CHECK.due("stay(0, " + n + ")", x.stay(0, n), 4 + n);
            CHECK.due("as now", Check.guest(x, 0, 1), 4 + n);
        }
        CHECK.of("P15: NONE: no such GUEST");
        GongHouse six = Check.house("d;g;g;g;g;g;g");
        for (int guest : new int[] {-1, 6, LOWEST, HIGHEST}) {
            CHECK.due("stay(" + guest + ", 1)", six.stay(guest, 1), -1);
        }
        CHECK.due("the last", six.stay(5, 1), 8);
        CHECK.due("no HOUSE", new GongHouse().stay(0, 1), -1);
        CHECK.of("P15: NONE: he LEFT");
        GongHouse left = Check.house("d;gs20;gs20p4");
        Check.rule(left, "y:p=3?0-5");
        left.day();
        CHECK.due("he did not LEAVE yet", left.stay(0, 1), 21);
        left.day();
        CHECK.due("he LEFT", left.stay(0, 1), -1);
        CHECK.due("the other did not", left.stay(1, 1), 21);
        CHECK.of("P15: one who is not THERE yet, or not any more, did not LEAVE");
        GongHouse gone = Check.house("d;gs1;ga20");
        CHECK.due("not yet", gone.stay(1, 9), 16);
        Check.days(gone, 3);
        CHECK.due("not any more", gone.stay(0, 2), 3);
        CHECK.due("still not: DAY 3 is the fourth", gone.there(0), 0);
        CHECK.due("one more", gone.stay(0, 1), 4);
        CHECK.due("THERE", gone.there(0), 1);
    }

    private static void stayingLongest() {
        CHECK.of("==== 2, P15: (99 at most); NONE: above 99");
        GongHouse x = Check.house("d;gs20");
        for (int i = 1; i <= 8; i++) {
            CHECK.due("stay(0, 9)", x.stay(0, 9), 20 + 9 * i);
        }
        for (int n = 8; n <= 9; n++) {
            CHECK.due("92 and " + n, x.stay(0, n), -1);
            CHECK.due("92 still", Check.guest(x, 0, 1), 92);
        }
        CHECK.due("98", x.stay(0, 6), 98);
        CHECK.due("100", x.stay(0, 2), -1);
        CHECK.due("99", x.stay(0, 1), 99);
        CHECK.due("100", x.stay(0, 1), -1);
        CHECK.due("99 still", Check.guest(x, 0, 1), 99);
        CHECK.of("P15: NONE: above 99 (of the sixth, too)");
        GongHouse six = Check.house("d;g;g;g;g;g;gs20");
        for (int i = 0; i < 8; i++) {
            six.stay(5, 9);
        }
        CHECK.due("100", six.stay(5, 8), -1);
        CHECK.due("99", six.stay(5, 7), 99);
        CHECK.due("100", six.stay(5, 1), -1);
        CHECK.due("not so the fifth", six.stay(4, 9), 16);
    }

    private static void signs() {
        CHECK.of("P16: A SIGN: the KIND that was; NONE: it is so");
        GongHouse x = Check.house("d;g;g;g;g;g;gl3");
        CHECK.due("3 to 0", x.sign(5, 0), 3);
        CHECK.due("0 is so", x.sign(5, 0), -1);
        CHECK.due("0 to 3", x.sign(5, 3), 0);
        CHECK.due("3 is so", x.sign(5, 3), -1);
        CHECK.due("two ACTS", x.count(12), 2);
        CHECK.of("P16: NONE: no such ones");
        for (int guest : new int[] {-1, 6, LOWEST, HIGHEST}) {
            CHECK.due("sign(" + guest + ", 1)", x.sign(guest, 1), -1);
        }
        for (int kind : new int[] {-1, 4, LOWEST, HIGHEST}) {
            CHECK.due("sign(0, " + kind + ")", x.sign(0, kind), -1);
        }
        CHECK.due("as told", Check.guest(x, 0, 2), 0);
        CHECK.due("two ACTS still", x.count(12), 2);
        CHECK.due("no HOUSE", new GongHouse().sign(0, 1), -1);
    }

    // ---- ==== 2: ACTS undone, promise 18 ----

    private static void fortyActs() {
        CHECK.of("==== 2, P18: the latest 40 can be UNDONE: how many still can be; NONE: none");
        int[] made = {39, 40, 41, 100};
        for (int acts : made) {
            GongHouse x = Check.house("d;d;g");
            for (int i = 0; i < acts; i++) {
                x.choose(i % 2);
            }
            int most = Math.min(acts, 40);
            CHECK.due("of " + acts, x.count(12), most);
            for (int i = most - 1; i >= 0; i--) {
                CHECK.due("undo() of " + acts, x.undo(), i);
                CHECK.due("count(12)", x.count(12), i);
            }
            CHECK.due("none of " + acts, x.undo(), -1);
            CHECK.due("none", x.count(12), 0);
            CHECK.due("what was CHOSEN then", x.choose(acts % 2), acts <= 40 ? -1 : 1 - acts % 2);
        }
        CHECK.due("no HOUSE", new GongHouse().undo(), -1);
        CHECK.due("no ACT", Check.house("d;g").undo(), -1);
        CHECK.of("P18: what was UNDONE can't be UNDONE; new ACTS come instead");
        GongHouse y = Check.house("sl0;d;g");
        y.ill();
        y.ill();
        CHECK.due("undo()", y.undo(), 1);
        CHECK.due("HAND", y.rule(0), 1);
        y.stay(0, 1);
        CHECK.due("undo()", y.undo(), 1);
        CHECK.due("HAND still", y.rule(0), 1);
        CHECK.due("undo()", y.undo(), 0);
        CHECK.due("HAND as told", y.rule(0), 0);
        CHECK.due("none", y.undo(), -1);
    }

    private static void undoneOneByOne() {
        CHECK.of("==== 2: All these are ACTS: a DAY, CHOSEN, ILL, made UP, STAYS, a SIGN, UNDONE one by one");
        GongHouse x = Check.house("sl2c9;d;dc9;gp9;ga3");
        x.stay(1, 9);
        x.sign(1, 3);
        x.makeUp();
        x.ill();
        x.choose(1);
        x.day();
        CHECK.due("0 of 4 COINS, then 9", x.rule(2), 9);
        CHECK.due("six", x.undo(), 5);
        CHECK.due("DAY", x.count(6), 0);
        CHECK.due("COINS", x.rule(2), 4);
        CHECK.due("JOY", x.count(7), 0);
        CHECK.due("CHOSEN", x.all(9), 1);
        CHECK.due("nothing COOKED", x.serves(2, 0), 1);
        CHECK.due("CHOSEN is UNDONE", x.undo(), 4);
        CHECK.due("none", x.all(9), 0);
        CHECK.due("ILL is UNDONE", x.undo(), 3);
        CHECK.due("HAND", x.rule(0), 1);
        CHECK.due("made UP is UNDONE", x.undo(), 2);
        CHECK.due("HAND", x.rule(0), 2);
        CHECK.due("COINS", x.rule(2), 9);
        CHECK.due("the SIGN is UNDONE", x.undo(), 1);
        CHECK.due("KIND", Check.guest(x, 1, 2), 0);
        CHECK.due("STAYS is UNDONE", x.undo(), 0);
        CHECK.due("DAYS", Check.guest(x, 1, 1), 7);
        CHECK.of("==== 2: no ACTS: laws, fever, SEEN, texts, images");
        Check.rule(x, "y:1");
        Check.week(x, "d");
        x.fever(3);
        x.seen(0, 0, 0, 0, true);
        x.image();
        CHECK.due("none", x.undo(), -1);
        x.day();
        CHECK.due("a DAY is UNDONE", x.undo(), 0);
        CHECK.due("the LAW holds", x.count(5), 0);
        CHECK.due("the WEEK is there", x.count(3), 1);
        CHECK.due("FEVER", x.count(9), 3);
        CHECK.due("SEEN", x.count(10), 1);
        CHECK.due("the IMAGE is there", x.back(), 0);
        CHECK.of("==== 2 (6): who LEFT is THERE again, when that is UNDONE");
        GongHouse y = Check.house("d;gs20");
        Check.rule(y, "y:0-9");
        Check.days(y, 2);
        CHECK.due("LEFT", y.count(8), 1);
        y.undo();
        CHECK.due("did not LEAVE", y.count(8), 0);
        CHECK.due("JOY", y.count(7), -9);
        CHECK.due("THERE", y.there(0), 1);
    }

    private static void undoneLog() {
        CHECK.of("==== 2: (LOG, too)");
        GongHouse x = Check.house("sl0;d;d;d;d;d;gs20");
        Check.manyDays(x, 100);
        CHECK.due("60", x.count(11), 60);
        for (int i = 0; i < 40; i++) {
            x.undo();
        }
        CHECK.due("DAY", x.count(6), 60);
        CHECK.due("60 of 60 DAYS", x.count(11), 60);
        for (int i = 0; i < 60; i++) {
            CHECK.due("log(" + i + ", 0)", x.log(i, 0), (59 - i) % 5);
        }
        CHECK.due("JOY of all on DAY 0", x.log(59, 2), 7);
        CHECK.due("none ahead of it", x.log(60, 0), HIDDEN);
        GongHouse y = Check.house("d;g");
        Check.days(y, 2);
        y.undo();
        CHECK.due("one", y.count(11), 1);
        CHECK.due("the first", y.log(0, 0), -1);
        CHECK.due("no second", y.log(1, 0), HIDDEN);
        y.undo();
        CHECK.due("none", y.count(11), 0);
        CHECK.due("none", y.log(0, 0), HIDDEN);
    }

    // ---- promise 22 ----

    private static void performing() {
        CHECK.of("P22: DO: its STEPS as ACTS, up to the first that can't be: how many were done");
        String[] weeks = {"c1;d", "x00;d", "u;d", "d;i;i;i;d", "d;c0;c0;d", "x09;x09;d"};
        int[] done = {0, 0, 0, 3, 2, 3};
        for (int i = 0; i < weeks.length; i++) {
            GongHouse x = Check.house("sl1c4;d;g");
            Check.week(x, weeks[i]);
            CHECK.due("perform of " + weeks[i], x.perform(0), done[i]);
            CHECK.due("ACTS of " + weeks[i], x.count(12), done[i]);
        }
        CHECK.of("P22: NONE: no such WEEK, no HOUSE");
        GongHouse y = Check.house("d;g");
        CHECK.due("no WEEK", y.perform(0), -1);
        Check.week(y, "d");
        for (int week : new int[] {-1, 1, 4, LOWEST, HIGHEST}) {
            CHECK.due("perform(" + week + ")", y.perform(week), -1);
        }
        CHECK.due("DAY 0", y.count(6), 0);
        GongHouse none = new GongHouse();
        Check.week(none, "d");
        CHECK.due("no HOUSE", none.perform(0), -1);
    }

    private static void performedToTheEnd() {
        CHECK.of("P22: all sixteen STEPS, each an ACT");
        GongHouse x = Check.house("d;gs1");
        Check.week(x, "x01;x01;x01;x01;x01;x01;x01;x01;x01;x01;x01;x01;x01;x01;x01;x01");
        CHECK.due("sixteen", x.perform(0), 16);
        CHECK.due("sixteen ACTS", x.count(12), 16);
        CHECK.due("17 DAYS", Check.guest(x, 0, 1), 17);
        x.perform(0);
        x.perform(0);
        CHECK.due("forty at most", x.count(12), 40);
        x.perform(0);
        x.perform(0);
        CHECK.due("81 DAYS", Check.guest(x, 0, 1), 81);
        CHECK.due("97", x.perform(0), 16);
        CHECK.due("up to 99", x.perform(0), 2);
        CHECK.due("none", x.perform(0), 0);
        CHECK.of("P22, ==== 2: 999 at most");
        GongHouse y = Check.house("d;g");
        Check.manyDays(y, 997);
        Check.week(y, "d;d;d");
        CHECK.due("two DAYS", y.perform(1), 2);
        CHECK.due("999", y.count(6), 999);
        CHECK.due("none", y.perform(1), 0);
    }

    // ---- ==== 4: YEARS, promise 17 ----

    private static void yearsWithin() {
        CHECK.of("==== 4, P17: n (1 .. 30) DAYS: the DAY; NONE: no HOUSE, out of bounds");
        GongHouse x = Check.house("d;g");
        for (int n : new int[] {0, -1, 31, LOWEST, HIGHEST}) {
            CHECK.due("years(" + n + ")", x.years(n, 1), -1);
            CHECK.due("DAY 0", x.count(6), 0);
        }
        CHECK.due("years(1)", x.years(1, 1), 1);
        CHECK.due("years(30)", x.years(30, 1), 31);
        CHECK.due("years(29)", x.years(29, 1), 60);
        CHECK.due("no HOUSE", new GongHouse().years(1, 1), -1);
    }

    private static void yearsBeyond() {
        CHECK.of("P17: NONE: beyond 999");
        GongHouse x = Check.house("d;g");
        Check.manyDays(x, 969);
        CHECK.due("999 and no more", x.years(30, 5), 999);
        CHECK.due("beyond", x.years(1, 5), -1);
        x.undo();
        CHECK.due("998", x.count(6), 998);
        CHECK.due("two DAYS are beyond", x.years(2, 5), -1);
        CHECK.due("998 still", x.count(6), 998);
        CHECK.due("none was done", x.count(12), 39);
        CHECK.due("one is not", x.years(1, 5), 999);
        GongHouse y = Check.house("d;g");
        Check.manyDays(y, 970);
        CHECK.due("1000 is beyond", y.years(30, 5), -1);
        CHECK.due("970 still", y.count(6), 970);
        CHECK.due("29", y.years(29, 5), 999);
    }

    /** x as a number without sign, of 64 bits: what the document says, without the machine's own going round. */
    private static final class Draws {
        private static final BigInteger ROUND = BigInteger.ONE.shiftLeft(64);
        private static final BigInteger TIMES = new BigInteger("6364136223846793005");
        private static final BigInteger MORE = new BigInteger("1442695040888963407");
        private BigInteger x;

        Draws(long seed) {
            x = BigInteger.valueOf(seed).mod(ROUND);
        }

        int draw(int j) {
            x = x.multiply(TIMES).add(MORE).mod(ROUND);
            return x.shiftRight(33).mod(BigInteger.valueOf(j)).intValue();
        }
    }

    /** YEARS once by the call, once by hand; all that can be asked of both must be the same. */
    private static GongHouse yearsByHand(String house, String law, int fever, int n, long seed) {
        GongHouse x = Check.house(house);
        GongHouse y = Check.house(house);
        for (GongHouse each : new GongHouse[] {x, y}) {
            each.fever(fever);
            if (!law.isEmpty()) {
                Check.rule(each, law);
            }
        }
        CHECK.due("years of " + seed, x.years(n, seed), n);
        Draws draws = new Draws(seed);
        for (int i = 0; i < n; i++) {
            if (draws.draw(10) < fever) {
                y.ill();
            }
            y.choose(draws.draw(y.count(1)));
            if (draws.draw(10) >= 8) {
                y.stay(draws.draw(y.count(0)), 2);
            }
            y.day();
        }
        for (int what = 0; what < 3; what++) {
            CHECK.due("rule(" + what + ") by " + seed, x.rule(what), y.rule(what));
            for (int i = 0; i < n; i++) {
                CHECK.due("log(" + i + ", " + what + ") by " + seed, x.log(i, what), y.log(i, what));
            }
        }
        for (int guest = 0; guest < y.count(0); guest++) {
            for (int what = 0; what < 6; what++) {
                CHECK.due("guest(" + guest + ", " + what + ") by " + seed, Check.guest(x, guest, what),
                    Check.guest(y, guest, what));
            }
        }
        CHECK.due("COOKS by " + seed, x.all(9), y.all(9));
        CHECK.due("SERVES by " + seed, x.serves(0, 0), y.serves(0, 0));
        return x;
    }

    private static void draws() {
        CHECK.of("==== 4: x times 6364136223846793005 and 1442695040888963407 (64 bits, going round), without sign");
        long[] seeds = {0, 1, -1, Long.MIN_VALUE, Long.MAX_VALUE, 0x7fffffffL, 0x80000000L, -0x80000000L, 1L << 32,
            1L << 33, (1L << 33) - 1, 20261118, -987654321012345678L};
        for (long seed : seeds) {
            yearsByHand("sl0;d;d;d;d;d;g;ga3;gs20;ga9s20;g;gs20l3", "", 1, 30, seed);
        }
    }

    private static void feverOfYears() {
        CHECK.of("==== 4: a draw of 10 below FEVER (0 .. 9): the cook falls ILL");
        for (int fever = 0; fever <= 9; fever++) {
            yearsByHand("sl0;d;d;g;g", "", fever, 30, 4711 + fever);
        }
        CHECK.of("==== 4: FEVER 0: never ILL");
        for (long seed = -5; seed < 5; seed++) {
            CHECK.due("HAND by " + seed, yearsByHand("sl0;d;g", "", 0, 30, seed).rule(0), 0);
        }
    }

    private static void whatCanNotBe() {
        CHECK.of("==== 4: the cook falls ILL, if it can be (three: the DAY goes by all the same)");
        CHECK.due("HAND", yearsByHand("sl3;d;d;gs20", "", 9, 30, 99).rule(0), 3);
        CHECK.of("==== 4: he STAYS 2 DAYS longer, if it can be (he LEFT: not)");
        for (long seed = 0; seed < 12; seed++) {
            GongHouse x = yearsByHand("d;gs20;gs20p1", "y:p=1?0-9;y:1", 1, 30, seed);
            CHECK.due("one LEFT by " + seed, x.count(8), 2);
            CHECK.due("at most two draws ahead of it", Check.guest(x, 1, 1) <= 24, true);
        }
        CHECK.of("==== 4: he STAYS 2 DAYS longer, if it can be (above 99: not)");
        for (long seed = 0; seed < 6; seed++) {
            GongHouse x = Check.house("d;gs20");
            for (int i = 0; i < 8; i++) {
                x.stay(0, 9);
            }
            x.stay(0, 6);
            CHECK.due("98 DAYS, years by " + seed, x.years(30, seed), 30);
            CHECK.due("98 still", Check.guest(x, 0, 1), 98);
            GongHouse y = Check.house("d;gs20");
            for (int i = 0; i < 8; i++) {
                y.stay(0, 9);
            }
            y.stay(0, 5);
            y.years(30, seed);
            int drawn = 0;
            Draws draws = new Draws(seed);
            for (int i = 0; i < 30; i++) {
                draws.draw(10);
                draws.draw(1);
                if (draws.draw(10) >= 8) {
                    draws.draw(1);
                    drawn++;
                }
            }
            CHECK.due("97 to 99, if drawn, by " + seed, Check.guest(y, 0, 1), drawn > 0 ? 99 : 97);
        }
    }

    private static void yearsAsActs() {
        CHECK.of("==== 4: Each DAY with what is ahead of it is one ACT");
        GongHouse x = Check.house("sl0;d;d;d;gs20;gs20");
        x.fever(9);
        x.choose(2);
        CHECK.due("years", x.years(30, 3), 30);
        CHECK.due("30 and one", x.count(12), 31);
        for (int i = 30; i >= 1; i--) {
            CHECK.due("undo()", x.undo(), i);
            CHECK.due("DAY", x.count(6), i - 1);
        }
        CHECK.due("HAND as told", x.rule(0), 0);
        CHECK.due("STAYS as told", Check.guest(x, 0, 1) + Check.guest(x, 1, 1), 40);
        CHECK.due("CHOSEN by hand", x.all(9), 2);
        CHECK.due("the last", x.undo(), 0);
        CHECK.due("nothing is CHOSEN", x.all(9), 0);
        CHECK.due("FEVER is no ACT's", x.count(9), 9);
        x.years(30, 4);
        x.years(30, 5);
        CHECK.due("40 of 60", x.count(12), 40);
        CHECK.due("60", x.count(11), 60);
    }

    // ---- ==== 4: IMAGES, promises 38 and 39 ----

    private static void images() {
        CHECK.of("P38: An IMAGE (instead of the one ahead): the DAY; NONE: no HOUSE");
        CHECK.due("no HOUSE", new GongHouse().image(), -1);
        GongHouse x = Check.house("d;g");
        CHECK.of("P39: BACK: the DAY; NONE: no IMAGE of this HOUSE");
        CHECK.due("no HOUSE", new GongHouse().back(), -1);
        CHECK.due("no IMAGE", x.back(), -1);
        CHECK.due("image on DAY 0", x.image(), 0);
        Check.days(x, 3);
        CHECK.due("back to 0", x.back(), 0);
        CHECK.due("DAY", x.count(6), 0);
        CHECK.due("no JOY", x.count(7), 0);
        CHECK.due("no LOG", x.count(11), 0);
        CHECK.due("back again", x.back(), 0);
        Check.days(x, 2);
        CHECK.due("image on DAY 2", x.image(), 2);
        x.day();
        CHECK.due("instead of the one ahead", x.back(), 2);
        CHECK.of("==== 4: BACK: (no ACT can be UNDONE then)");
        CHECK.due("none", x.count(12), 0);
        CHECK.due("undo()", x.undo(), -1);
        CHECK.due("DAY 2 still", x.count(6), 2);
        x.day();
        CHECK.due("but one that is done then", x.undo(), 0);
        CHECK.of("P38: an IMAGE is no ACT, and leaves those that were");
        GongHouse y = Check.house("d;g");
        Check.days(y, 2);
        y.image();
        CHECK.due("two", y.count(12), 2);
        CHECK.due("undo()", y.undo(), 1);
        CHECK.due("the IMAGE stays as it was", y.back(), 2);
        CHECK.due("LOG", y.count(11), 2);
    }

    private static void imagesKeep() {
        CHECK.of("==== 4: An IMAGE keeps the HAND, COINS, what was COOKED and CHOSEN, GUESTS, the DAY, the LOG");
        GongHouse x = Check.house("sl3h1c40;dw20;dw19;dw18;dw17;dw16;gs20p1;gs20p2;gs20");
        Check.rule(x, "y:p=1?0-9;y:p=2?0-2;y:3");
        Check.days(x, 4);
        x.makeUp();
        x.choose(0);
        x.stay(1, 5);
        x.sign(2, 3);
        int coins = x.rule(2);
        CHECK.due("image", x.image(), 4);
        x.ill();
        x.choose(1);
        x.stay(1, 5);
        x.sign(2, 1);
        Check.days(x, 3);
        x.law(-1);
        x.fever(5);
        x.seen(0, 0, 0, 0, true);
        Check.week(x, "d");
        CHECK.due("both LEFT", x.count(8), 3);
        CHECK.due("back", x.back(), 4);
        CHECK.due("HAND", x.rule(0), 2);
        CHECK.due("COINS", x.rule(2), coins);
        CHECK.due("CHOSEN", x.all(9), 0);
        CHECK.due("COOKED on DAY 2", x.serves(0, 0), 2);
        CHECK.due("COOKED on DAY 3", x.serves(1, 0), 3);
        CHECK.due("CHOSEN for DAY 4", x.serves(2, 0), 0);
        CHECK.due("its PORTIONS", x.serves(2, 2), 2);
        CHECK.due("STAYS", Check.guest(x, 1, 1), 25);
        CHECK.due("LIKES", Check.guest(x, 2, 2), 3);
        CHECK.due("JOY of the first", Check.guest(x, 0, 4), -18);
        CHECK.due("JOY of the second", Check.guest(x, 1, 4), -8);
        CHECK.due("JOY of the third", Check.guest(x, 2, 4), 12);
        CHECK.due("who LEFT", x.count(8), 1);
        CHECK.due("LOG", x.count(11), 4);
        CHECK.due("its latest", x.log(0, 2), -18 - 8 + 12);
        CHECK.due("its oldest", x.log(3, 2), -9 - 2 + 3);
        CHECK.of("==== 4: no more than these: the LAW that holds, FEVER, SEEN, WEEKS are as they were");
        CHECK.due("LAW", x.count(5), -1);
        CHECK.due("FEVER", x.count(9), 5);
        CHECK.due("SEEN", x.count(10), 1);
        CHECK.due("WEEKS", x.count(3), 1);
        CHECK.of("==== 4: the LOG of 60, as it was");
        GongHouse y = Check.house("sl0;d;d;d;d;d;gs20");
        Check.manyDays(y, 66);
        y.image();
        for (int i = 0; i < 6; i++) {
            y.perform(0);
        }
        y.years(30, 1);
        y.back();
        CHECK.due("60", y.count(11), 60);
        for (int i = 0; i < 60; i++) {
            CHECK.due("log(" + i + ", 0)", y.log(i, 0), (65 - i) % 5);
        }
    }

    private static void imagesOfOtherHouses() {
        CHECK.of("P39: NONE: no IMAGE of this HOUSE");
        GongHouse x = Check.house("d;g");
        x.day();
        x.image();
        Check.tape(x, "d;");
        CHECK.due("a HOUSE with a FAULT is none", x.text(0), -1);
        CHECK.due("the IMAGE is there", x.back(), 1);
        Check.tape(x, "d;g");
        x.text(0);
        CHECK.due("another HOUSE, though alike", x.back(), -1);
        CHECK.due("DAY 0", x.count(6), 0);
        CHECK.due("an IMAGE of it", x.image(), 0);
        CHECK.due("back", x.back(), 0);
    }

    private static void imageAtTheEnd() {
        CHECK.of("P38, P39: on DAY 999");
        GongHouse x = Check.house("d;g");
        Check.manyDays(x, 999);
        CHECK.due("image", x.image(), 999);
        x.undo();
        CHECK.due("998", x.count(6), 998);
        CHECK.due("back", x.back(), 999);
        CHECK.due("none goes by", x.day(), -1);
        CHECK.due("60", x.count(11), 60);
    }

    // ---- promise 40 ----

    private static void counts() {
        CHECK.of("P40: count of 0 .. 12; HIDDEN for others");
        GongHouse x = Check.house("d;d;g;g;gp4");
        Check.rule(x, "y:p=4?0-9;y:2");
        Check.tape(x, "y:1");
        x.text(1);
        Check.week(x, "d;d");
        x.fever(7);
        x.perform(0);
        x.seen(1, 1, 2, 2, false);
        Check.tape(x, "four");
        int[] want = {3, 2, 2, 1, 4, 0, 2, 4 + 4 - 18, 4, 7, 1, 2, 2};
        for (int what = 0; what < want.length; what++) {
            CHECK.due("count(" + what + ")", x.count(what), want[what]);
        }
        for (int what : new int[] {-1, 13, 14, LOWEST, HIGHEST}) {
            CHECK.due("count(" + what + ")", x.count(what), HIDDEN);
            CHECK.due("count(" + what + ") of no HOUSE", new GongHouse().count(what), HIDDEN);
        }
    }

    private static void lastCall() {
        CHECK.of("An object is used for at most 512 calls");
        GongHouse x = Check.house("sl0;d;d;gs20");
        // Three calls made the HOUSE; these are 508 more, all of them ACTS.
        for (int i = 0; i < 508; i++) {
            x.choose(i % 2);
        }
        CHECK.due("the 512th", x.choose(0), 1);
        GongHouse y = Check.house("d;g");
        for (int i = 0; i < 508; i++) {
            y.best(3, 1);
        }
        CHECK.due("the 512th", y.best(3, 1), 28);
        GongHouse z = Check.house("d;g");
        for (int i = 0; i < 508; i++) {
            z.image();
            i++;
            z.rests(0, 1, -1);
        }
        CHECK.due("the 512th", z.back(), 0);
    }
}
