/**
 * The boundaries that the document names for what is asked apart (==== 3, promises 21 and 23 to 37), a sentence
 * at a time: each CHECK.of says which. The answers were worked out from the document's words.
 */
public final class BoundsOfAsksTest {
    private static final int HIDDEN = -1000000;
    private static final int LOWEST = Integer.MIN_VALUE;
    private static final int HIGHEST = Integer.MAX_VALUE;
    private static final int[] OUTSIDE = {LOWEST, HIGHEST};
    private static final Check CHECK = new Check("BoundsOfAsksTest");

    public static void main(String[] args) {
        runs();
        runsNearTheEnd();
        serves();
        servesBehindTheEnd();
        there();
        fed();
        best();
        bestOfSeveral();
        bestRefused();
        madeUp();
        seen();
        likes();
        probe();
        probeOfSeveral();
        leaves();
        leavesInSixty();
        games();
        gamesFromAsItIs();
        gamesOfEightDays();
        gamesRefused();
        rests();
        restsOfAll();
        odds();
        oddsOfTheHand();
        oddsRefused();
        mostOfSeveral();
        liked();
        waste();
        last();
        takesAndCooks();
        nothing();
        mustard();
        full();
        allRefused();
        kinds();
        staying();
        CHECK.finish();
    }

    private static GongHouse late(String house, int day) {
        GongHouse x = Check.house(house);
        Check.manyDays(x, day);
        return x;
    }

    // ---- promise 21 ----

    private static void runs() {
        CHECK.of("==== 3, P21: RUN: behind how many STEPS the first is that can't be (NONE: all can be)");
        // COINS are 9: made UP once; behind two DAYS 11, but the HAND is 1 and can be made UP once alone.
        String[] weeks = {"c2;d", "d;d", "i;i;i;d", "x01;x09;x00", "u;u", "c1;c0;c0", "x11;d", "d;d;u;u;d", "i;u;u;d"};
        int[] behind = {0, -1, 2, 2, 1, 2, 0, 3, 2};
        int[] joys = {0, -2 + 6, 0, 0, 0, 0, 0, -2 + 6, 0};
        for (int i = 0; i < weeks.length; i++) {
            GongHouse x = Check.house("sl1c9;d;d;g");
            Check.week(x, weeks[i]);
            CHECK.due("run of " + weeks[i], x.run(0, 0), behind[i]);
            CHECK.due("JOY of " + weeks[i], x.run(0, 1), joys[i]);
        }
        CHECK.of("==== 3, P21: RUN: how much more JOY (up to the first that can't be; it may be less)");
        GongHouse y = Check.house("d;g;g");
        y.day();
        Check.week(y, "d;d;c9;d");
        Check.week(y, "i;i;d");
        CHECK.due("two DAYS, two GUESTS", y.run(0, 1), 24);
        CHECK.due("less by nothing", y.run(1, 1), -4);
        CHECK.of("==== 3, P21: RUN: the GUEST, the first, STAYS so many DAYS longer, the second");
        GongHouse longer = Check.house("sl0;d;gs1;gs1");
        Check.week(longer, "x02;d;d;d;d");
        Check.week(longer, "x11;d;d;d;d");
        CHECK.due("three DAYS and one, 7 each", longer.run(0, 1), 28);
        CHECK.due("one DAY and two, 7 each", longer.run(1, 1), 21);
        CHECK.of("P21: HIDDEN: no such ones, no HOUSE");
        for (int week : new int[] {-1, 2, 4, LOWEST, HIGHEST}) {
            CHECK.due("run(" + week + ", 0)", y.run(week, 0), HIDDEN);
            CHECK.due("run(" + week + ", 1)", y.run(week, 1), HIDDEN);
        }
        for (int what : new int[] {-1, 2, LOWEST, HIGHEST}) {
            CHECK.due("run(0, " + what + ")", y.run(0, what), HIDDEN);
        }
        GongHouse none = new GongHouse();
        Check.week(none, "d");
        CHECK.due("no HOUSE", none.run(0, 0), HIDDEN);
        CHECK.due("no HOUSE", none.run(0, 1), HIDDEN);
    }

    private static void runsNearTheEnd() {
        CHECK.of("==== 3: DAYS go on behind 999, but not in RUN");
        GongHouse x = late("d;g", 998);
        Check.week(x, "d");
        Check.week(x, "d;d");
        CHECK.due("one DAY", x.run(1, 0), -1);
        CHECK.due("a second", x.run(2, 0), 1);
        x.day();
        CHECK.due("none", x.run(1, 0), 0);
        CHECK.due("no JOY", x.run(1, 1), 0);
    }

    // ---- promises 23 to 25 ----

    private static void serves() {
        CHECK.of("==== 3, P23: SERVES in n (0 .. 20) DAYS (0: on this one): DISH (0), WARMTH (1), PORTIONS (2)");
        GongHouse x = Check.house("sl2h3;dw20;dw10;dw3;gs5;ga1s20");
        for (int n = 2; n <= 20; n++) {
            int dish = (n - 2) % 3;
            int cookedFor = n - 2 == 0 ? 1 : n - 2 < 5 ? 2 : 1;
            CHECK.due("serves(" + n + ", 0)", x.serves(n, 0), dish);
            CHECK.due("serves(" + n + ", 1)", x.serves(n, 1), new int[] {14, 4, 0}[dish]);
            CHECK.due("serves(" + n + ", 2)", x.serves(n, 2), cookedFor);
        }
        CHECK.of("P23: NONE: nothing");
        for (int n = 0; n < 2; n++) {
            for (int what = 0; what < 3; what++) {
                CHECK.due("serves(" + n + ", " + what + ")", x.serves(n, what), -1);
            }
        }
        CHECK.of("P23: NONE: no HOUSE, out of bounds, no such what");
        for (int n : new int[] {-1, 21, LOWEST, HIGHEST}) {
            CHECK.due("serves(" + n + ", 0)", x.serves(n, 0), -1);
        }
        for (int what : new int[] {-1, 3, LOWEST, HIGHEST}) {
            CHECK.due("serves(2, " + what + ")", x.serves(2, what), -1);
            CHECK.due("serves(0, " + what + ")", x.serves(0, what), -1);
        }
        CHECK.due("no HOUSE", new GongHouse().serves(0, 0), -1);
        CHECK.of("==== 3: all going on (who LEAVES on the way has no PORTION)");
        GongHouse y = Check.house("sl0;d;gs20;gs20p1");
        Check.rule(y, "y:p=1?0-5");
        CHECK.due("PORTIONS in 1", y.serves(1, 2), 2);
        CHECK.due("PORTIONS in 2", y.serves(2, 2), 1);
    }

    private static void servesBehindTheEnd() {
        CHECK.of("==== 3: (DAYS go on behind 999)");
        GongHouse x = late("sl3;d;d;d;d;d;g", 999);
        CHECK.due("SERVES on 999", x.serves(0, 0), 996 % 5);
        CHECK.due("SERVES on 1000", x.serves(1, 0), 997 % 5);
        CHECK.due("SERVES on 1003", x.serves(4, 0), 1000 % 5);
        CHECK.due("SERVES on 1019", x.serves(20, 0), 1016 % 5);
        CHECK.due("PORTIONS", x.serves(20, 2), 0);
        CHECK.due("THERE on 1019", x.there(20), 0);
        CHECK.due("FULL", x.all(12), 0);
        CHECK.due("MUSTARD", x.all(11), -1);
        CHECK.due("LEAVES", x.leaves(0), -1);
        CHECK.due("BEST", x.best(3, 0), 0);
        CHECK.due("ODDS", x.odds(0, 4, 50), 0);
        CHECK.due("DAY 999 still", x.count(6), 999);
    }

    private static void there() {
        CHECK.of("==== 3, P24: THERE in n DAYS (0 .. 20), as bits");
        GongHouse x = Check.house("d;gs1;ga19s1;ga20s1;ga20;gs20;ga18s2");
        CHECK.due("in 0", x.there(0), 1 | 16);
        CHECK.due("in 1", x.there(1), 16);
        CHECK.due("in 18", x.there(18), 16 | 32);
        CHECK.due("in 19", x.there(19), 2 | 16 | 32);
        CHECK.due("in 20", x.there(20), 4 | 8);
        CHECK.of("P24: NONE: no HOUSE, out of bounds");
        for (int n : new int[] {-1, 21, LOWEST, HIGHEST}) {
            CHECK.due("there(" + n + ")", x.there(n), -1);
        }
        CHECK.due("no HOUSE", new GongHouse().there(0), -1);
        CHECK.due("all six", Check.house("d;g;g;g;g;g;g").there(6), 63);
        CHECK.due("none of them", Check.house("d;g;g;g;g;g;g").there(7), 0);
    }

    private static void fed() {
        CHECK.of("==== 3, P25: FED of a GUEST on this DAY (0, 1, 2)");
        GongHouse x = Check.house("d;gs2;gs1;ga1;ga1;ga2");
        CHECK.due("nothing SERVED", x.fed(0), 0);
        x.day();
        CHECK.due("one", x.fed(0), 1);
        CHECK.due("the other PORTION", x.fed(2), 1);
        CHECK.due("none is left", x.fed(3), 0);
        CHECK.due("one on the last DAY, none is left", Check.house("sl0;d;gs1").fed(0), 1);
        GongHouse two = Check.house("d;gs2;gs1");
        two.day();
        CHECK.due("two", two.fed(0), 2);
        CHECK.of("P25: NONE: he is not THERE, no such GUEST");
        CHECK.due("not any more", x.fed(1), -1);
        CHECK.due("not yet", x.fed(4), -1);
        for (int guest : new int[] {-1, 5, LOWEST, HIGHEST}) {
            CHECK.due("fed(" + guest + ")", x.fed(guest), -1);
        }
        CHECK.due("no HOUSE", new GongHouse().fed(0), -1);
    }

    // ---- promise 26 ----

    private static void best() {
        CHECK.of("==== 3, P26: BEST for n (1 .. 3): the row (digits, the first the highest)");
        // HAND 0: the fifth gives 6 and 3, each other one 3; by the DAY 0 .. 3 are COOKED on DAYS 0 .. 3.
        GongHouse x = Check.house("sl0;dw0;dw0;dw0;dw0;dw20;gs20");
        CHECK.due("best(1, 0)", x.best(1, 0), 4);
        CHECK.due("best(1, 1)", x.best(1, 1), 9 + 3 + 3 + 3);
        CHECK.due("best(2, 0)", x.best(2, 0), 44);
        CHECK.due("best(2, 1)", x.best(2, 1), 18 + 3 + 3 + 9);
        CHECK.due("best(3, 0)", x.best(3, 0), 444);
        CHECK.due("best(3, 1)", x.best(3, 1), 27 + 3 + 9 + 3);
        CHECK.of("==== 3: for this DAY and the next ones: the first digit is this DAY's");
        GongHouse y = Check.house("sl0;dw3;dw3k1;dw3k2;gs20");
        Check.rule(y, "y:d=0&l=1?9;y:d=1&l=0?9;y:0");
        y.sign(0, 2);
        // DAY 0 wants the third DISH, DAY 1 not the third, of several the least.
        CHECK.due("best(2, 0)", y.best(2, 0), 20);
        CHECK.due("best(3, 0)", y.best(3, 0), 200);
        CHECK.due("best(3, 1)", y.best(3, 1), 18);
        CHECK.of("==== 3: most behind n and 3 DAYS more");
        // What is CHOSEN now is eaten in three DAYS, with the HAND of three: the last of the DAYS that count.
        GongHouse hand = Check.house("sl3h0;dw0;dw20k1;gs20l1");
        CHECK.due("best(1, 0)", hand.best(1, 0), 1);
        CHECK.due("three times nothing, then 9", hand.best(1, 1), -6 + 9);
        GongHouse far = Check.house("sl3h0;dw0;dw20;gs20");
        Check.rule(far, "y:d=3&w=20?5;y:d=4&w=20?7;y:d=7?9;y:0");
        CHECK.due("DAY 4 does not count for 1", far.best(1, 1), 5);
        CHECK.due("it does for 2", far.best(2, 1), 12);
        CHECK.due("the row", far.best(2, 0), 11);
        CHECK.due("DAY 7 does not count for 3", far.best(3, 1), 12);
        CHECK.due("the row", far.best(3, 0), 110);
    }

    private static void bestOfSeveral() {
        CHECK.of("==== 3: BEST: (of several the least)");
        for (int n = 1; n <= 3; n++) {
            CHECK.due("all alike", Check.house("sl0;d;d;d;d;d;g").best(n, 0), 0);
            CHECK.due("nobody is THERE", Check.house("sl0;d;dw20;ga20").best(n, 0), 0);
            CHECK.due("no JOY", Check.house("sl0;d;dw20;ga20").best(n, 1), 0);
            CHECK.due("one DISH", Check.house("sl0;d;g").best(n, 0), 0);
        }
        GongHouse x = Check.house("sl0;dw0;dw20;dw20;gs20");
        CHECK.due("the lower of two", x.best(3, 0), 111);
        CHECK.of("==== 3: JOY of all (as it is, and less than nothing, too)");
        GongHouse low = Check.house("sl0;d;d;g;g;g;g;g;g");
        Check.rule(low, "y:0-9");
        CHECK.due("all LEAVE at -18", low.best(1, 1), -108);
        low.day();
        CHECK.due("on this DAY", low.best(3, 1), -108);
        low.day();
        CHECK.due("they LEFT", low.best(2, 1), -108);
        CHECK.due("the row", low.best(2, 0), 0);
    }

    private static void bestRefused() {
        CHECK.of("P26: HIDDEN: no HOUSE, out of bounds, no such what");
        GongHouse x = Check.house("d;g");
        for (int n : new int[] {0, -1, 4, LOWEST, HIGHEST}) {
            CHECK.due("best(" + n + ", 0)", x.best(n, 0), HIDDEN);
            CHECK.due("best(" + n + ", 1)", x.best(n, 1), HIDDEN);
        }
        for (int what : new int[] {-1, 2, LOWEST, HIGHEST}) {
            CHECK.due("best(1, " + what + ")", x.best(1, what), HIDDEN);
        }
        CHECK.due("no HOUSE", new GongHouse().best(1, 0), HIDDEN);
        CHECK.due("no HOUSE", new GongHouse().best(1, 1), HIDDEN);
    }

    // ---- promise 27 ----

    private static void madeUp() {
        CHECK.of("==== 3, P27: MADEUP for v (0 .. 20): the fewest so that WARMTH is v or more; NONE: by none");
        // On DAY 3: HAND 3: DISH 0, 20 - 15; HAND 2: DISH 1, 17 - 10; HAND 1: DISH 2, 11 - 5; HAND 0: DISH 3, 19.
        GongHouse x = Check.house("sl3h5;dw20;dw17;dw11;dw19;g");
        Check.days(x, 3);
        for (int v = 0; v <= 20; v++) {
            CHECK.due("madeUp(" + v + ")", x.madeUp(v), v <= 5 ? 0 : v <= 7 ? 1 : v <= 19 ? 3 : -1);
        }
        CHECK.due("20 of 20", Check.house("sl0;dw20;g").madeUp(20), 0);
        CHECK.due("0 of 0", Check.house("sl0;dw0;g").madeUp(0), 0);
        CHECK.due("1 of 0", Check.house("sl0;dw0;g").madeUp(1), -1);
        CHECK.of("==== 3: MADEUP (COINS do not matter)");
        GongHouse poor = Check.house("sl3c0;dw20;g");
        CHECK.due("made UP three times", poor.madeUp(20), 3);
        CHECK.due("but not by hand", poor.makeUp(), -1);
        CHECK.of("==== 3: what is SERVED (nothing is not)");
        for (int hand = 0; hand <= 3; hand++) {
            CHECK.due("on DAY 0, HAND " + hand, Check.house("sl" + hand + ";dw0;g").madeUp(0), hand);
        }
        CHECK.of("==== 3: MADEUP now, of what was CHOSEN for this DAY, too");
        GongHouse chosen = Check.house("sl1;dw3;dw20;g");
        chosen.choose(1);
        CHECK.due("the DISH of today", chosen.madeUp(20), 1);
        CHECK.of("==== 3: MADEUP: DAYS of the HAND made UP (never one more)");
        GongHouse more = Check.house("sl1h3;dw0;dw20;dw0;dw13;g");
        Check.days(more, 3);
        // HAND 2 would be 20 - 6, HAND 1 is 0, HAND 0 is 13.
        CHECK.due("13", more.madeUp(13), 1);
        CHECK.due("14", more.madeUp(14), -1);
        CHECK.due("0", more.madeUp(0), 0);
        CHECK.of("P27: NONE: no HOUSE, out of bounds");
        for (int v : new int[] {-1, 21, LOWEST, HIGHEST}) {
            CHECK.due("madeUp(" + v + ")", x.madeUp(v), -1);
        }
        CHECK.due("no HOUSE", new GongHouse().madeUp(0), -1);
    }

    // ---- promises 28 to 30 ----

    private static void seen() {
        CHECK.of("==== 3, P28: SEEN (10 at most): how many there are; NONE: there are ten");
        GongHouse x = Check.house("d;d;d;d;d;g;g;g;g;g;g");
        for (int i = 1; i <= 10; i++) {
            CHECK.due("seen", x.seen(5, 4, 20, 20, false), i);
            CHECK.due("count(10)", x.count(10), i);
        }
        CHECK.due("an eleventh", x.seen(5, 4, 20, 20, false), -1);
        CHECK.due("ten", x.count(10), 10);
        CHECK.of("==== 3, P28: WARMTH w (0 .. 20), JOY of v (-9 .. 20); NONE: out of bounds");
        GongHouse y = Check.house("d;g");
        int[][] within = {{0, -9}, {0, 20}, {20, -9}, {20, 20}};
        for (int i = 0; i < within.length; i++) {
            CHECK.due("seen " + i, y.seen(0, 0, within[i][0], within[i][1], i < 2), i + 1);
        }
        int[][] outside = {{-1, 0}, {21, 0}, {0, -10}, {0, 21}, {LOWEST, 0}, {HIGHEST, 0}, {0, LOWEST}, {0, HIGHEST}};
        for (int[] row : outside) {
            CHECK.due("seen of w " + row[0] + ", v " + row[1], y.seen(0, 0, row[0], row[1], true), -1);
        }
        CHECK.of("P28: NONE: no such ones");
        for (int far : new int[] {-1, 1, LOWEST, HIGHEST}) {
            CHECK.due("seen of guest " + far, y.seen(far, 0, 0, 0, true), -1);
            CHECK.due("seen of dish " + far, y.seen(0, far, 0, 0, true), -1);
        }
        CHECK.due("four still", y.count(10), 4);
        CHECK.due("no HOUSE", new GongHouse().seen(0, 0, 0, 0, true), -1);
    }

    private static void likes() {
        CHECK.of("==== 3, P29: LIKES: KINDS (bits) that he may LIKE so that all SEEN of him is so");
        GongHouse x = Check.house("dk0;dk1;dk2;dk3;g;g");
        CHECK.due("nothing SEEN", x.likes(0), 15);
        // WARMTH 9 gives 3, and 6 to one who LIKES the KIND.
        x.seen(0, 3, 9, 3, true);
        CHECK.due("3 or more whatever he LIKES", x.likes(0), 15);
        x.seen(0, 3, 9, 4, false);
        CHECK.due("not 4: not KIND 3", x.likes(0), 7);
        x.seen(0, 0, 9, 6, false);
        CHECK.due("not 6: not KIND 0", x.likes(0), 6);
        CHECK.due("nothing SEEN of the other", x.likes(1), 15);
        x.seen(0, 1, 9, 6, true);
        CHECK.due("6: KIND 1", x.likes(0), 2);
        x.seen(0, 2, 9, 6, true);
        CHECK.due("none", x.likes(0), 0);
        x.seen(1, 2, 9, 7, true);
        CHECK.due("7 can't be", x.likes(1), 0);
        CHECK.of("==== 3: SEEN: one PORTION, DAY 0 on which he came (n 0, d 0, f 1), by the LAW that holds");
        GongHouse y = Check.house("dk2;gp7a9");
        Check.days(y, 3);
        y.seen(0, 0, 5, 14, true);
        CHECK.due("without a LAW", y.likes(0), 0);
        Check.rule(y, "y:n=0&d=0&f=1?w+l*2+p;y:0");
        CHECK.due("5, 2 and 7 by KIND 2 alone", y.likes(0), 4);
        CHECK.of("==== 3: SEEN: JOY held within -9 .. 20");
        GongHouse z = Check.house("d;g");
        Check.rule(z, "y:l=1?99;y:0-99");
        z.seen(0, 0, 0, 20, true);
        CHECK.due("20 of 99", z.likes(0), 1);
        z.seen(0, 0, 0, -9, true);
        CHECK.due("-9 of all", z.likes(0), 1);
        GongHouse low = Check.house("d;g");
        Check.rule(low, "y:0-99");
        low.seen(0, 0, 0, -9, true);
        CHECK.due("-9 or more of -99", low.likes(0), 15);
        low.seen(0, 0, 0, -8, false);
        CHECK.due("not -8", low.likes(0), 15);
        CHECK.of("P29: NONE: no such GUEST");
        for (int guest : new int[] {-1, 2, LOWEST, HIGHEST}) {
            CHECK.due("likes(" + guest + ")", x.likes(guest), -1);
        }
        CHECK.due("no HOUSE", new GongHouse().likes(0), -1);
    }

    private static void probe() {
        CHECK.of("P30: NONE: no such GUEST, out of bounds");
        GongHouse x = Check.house("d;g");
        int[][] within = {{0, -9}, {0, 20}, {20, -9}, {20, 20}};
        for (int[] row : within) {
            CHECK.due("probe of w " + row[0] + ", v " + row[1], x.probe(0, row[0], row[1]), 0);
        }
        int[][] outside = {{-1, 0}, {21, 0}, {0, -10}, {0, 21}, {LOWEST, 0}, {HIGHEST, 0}, {0, LOWEST}, {0, HIGHEST}};
        for (int[] row : outside) {
            CHECK.due("probe of w " + row[0] + ", v " + row[1], x.probe(0, row[0], row[1]), -1);
        }
        for (int guest : new int[] {-1, 1, LOWEST, HIGHEST}) {
            CHECK.due("probe of guest " + guest, x.probe(guest, 0, 0), -1);
        }
        CHECK.due("no HOUSE", new GongHouse().probe(0, 0, 0), -1);
        CHECK.of("P30: NONE: nothing fits");
        x.seen(0, 0, 0, 20, true);
        CHECK.due("no KIND is left", x.probe(0, 0, 0), -1);
    }

    private static void probeOfSeveral() {
        CHECK.of("==== 3, P30: TRY: the DISH by which the KINDS are least apart in number (of several the lowest)");
        GongHouse x = Check.house("dk3;dk3;dk1;dk2;g");
        CHECK.due("one of four by each: the lowest", x.probe(0, 9, 6), 0);
        x.seen(0, 0, 9, 6, false);
        CHECK.due("0, 1, 2 are left: one of three", x.probe(0, 9, 6), 2);
        x.seen(0, 2, 9, 6, false);
        CHECK.due("0, 2 are left: one of two", x.probe(0, 9, 6), 3);
        CHECK.due("3 he has of any: none tells, the lowest", x.probe(0, 9, 3), 0);
        CHECK.due("7 he has of none: the lowest", x.probe(0, 9, 7), 0);
        x.seen(0, 3, 9, 6, true);
        CHECK.due("2 is left: none tells, the lowest", x.probe(0, 9, 6), 0);
        CHECK.of("==== 3, P30: TRY: for w and v (at the very v)");
        GongHouse y = Check.house("dk3;dk1;g");
        y.seen(0, 0, 0, 3, false);
        CHECK.due("WARMTH 2 gives 0, and 3 to KIND 1", y.probe(0, 2, 3), 1);
        CHECK.due("v 4: nobody", y.probe(0, 2, 4), 0);
        CHECK.due("v 1: KIND 1", y.probe(0, 2, 1), 1);
        CHECK.due("v 0: all", y.probe(0, 2, 0), 0);
    }

    // ---- promise 31 ----

    private static void leaves() {
        CHECK.of("==== 3, P31: LEAVES: in how many DAYS he LEAVES by JOY (1: on this one)");
        GongHouse x = Check.house("d;gs20;gs3;ga5s20;gs20p0");
        Check.rule(x, "y:p=0?1;y:0-4");
        CHECK.due("-12 on the third", x.leaves(0), 3);
        CHECK.due("on his last", x.leaves(1), 3);
        CHECK.due("comes on DAY 5", x.leaves(2), 8);
        CHECK.of("P31: NONE: not within 60, he LEFT, no such GUEST");
        CHECK.due("never", x.leaves(3), -1);
        x.stay(0, 1);
        Check.days(x, 2);
        CHECK.due("on this one", x.leaves(0), 1);
        x.day();
        CHECK.due("LEFT", x.leaves(0), -1);
        for (int guest : new int[] {-1, 4, LOWEST, HIGHEST}) {
            CHECK.due("leaves(" + guest + ")", x.leaves(guest), -1);
        }
        CHECK.due("no HOUSE", new GongHouse().leaves(0), -1);
        GongHouse gone = Check.house("d;gs2");
        Check.rule(gone, "y:0-4");
        CHECK.due("goes ahead of it, as told", gone.leaves(0), -1);
    }

    private static void leavesInSixty() {
        CHECK.of("==== 3, P31: (1 .. 60); NONE: not within 60");
        GongHouse x = Check.house("d;gs20");
        for (int i = 0; i < 8; i++) {
            x.stay(0, 9);
        }
        Check.rule(x, "y:d=0?0-9;y:d=60?0-1");
        CHECK.due("in 61", x.leaves(0), -1);
        x.day();
        CHECK.due("in 60", x.leaves(0), 60);
        x.day();
        CHECK.due("in 59", x.leaves(0), 59);
    }

    // ---- promises 32 and 33 ----

    private static void games() {
        CHECK.of("==== 3, P32: GAME: x, y (0 .. 3) how many DAYS longer each STAYS");
        // HAND 0: each DAY of his gives 7 and 2 and takes what he PAYS: 2 a DAY.
        GongHouse x = Check.house("sl0;d;gs2p2;gs4p2");
        for (int a = 0; a <= 3; a++) {
            for (int b = 0; b <= 3; b++) {
                CHECK.due("game(0, 1, " + a + ", " + b + ", 0)", x.game(0, 1, a, b, 0), 7 * (2 + a));
                CHECK.due("game(0, 1, " + a + ", " + b + ", 1)", x.game(0, 1, a, b, 1), 7 * (4 + b));
                CHECK.due("game(1, 0, " + b + ", " + a + ", 0)", x.game(1, 0, b, a, 0), 7 * (4 + b));
            }
        }
        CHECK.of("==== 3: GAME: 2 more for each DAY on which it is FED (once, two PORTIONS or one)");
        GongHouse two = Check.house("d;gs2p0;gs1p0");
        CHECK.due("-2, then 6 and 2", two.game(0, 1, 0, 0, 0), 6);
        CHECK.due("-2", two.game(0, 1, 0, 0, 1), -2);
        CHECK.of("==== 3: GAME: how much more JOY (less than it is, held at 999)");
        GongHouse full = Check.house("sl0;d;gs20p0;gs20p0");
        for (int i = 0; i < 5; i++) {
            full.stay(0, 9);
        }
        Check.rule(full, "y:20");
        Check.manyDays(full, 49);
        full.law(-1);
        CHECK.due("19 more, 16 for FED", full.game(0, 1, 0, 0, 0), 35);
        CHECK.due("gone", full.game(0, 1, 0, 0, 1), 0);
    }

    private static void gamesFromAsItIs() {
        CHECK.of("==== 3: GAME: how much more JOY it has (than as it is), whichever GUEST is the first");
        GongHouse x = Check.house("sl0;d;gs20p1;gs20p3;gs20p5");
        Check.rule(x, "y:p");
        Check.days(x, 2);
        int[] more = {8 + 16 - 8, 24 + 16 - 24, 40 + 16 - 40};
        for (int one = 0; one < 3; one++) {
            for (int other = 0; other < 3; other++) {
                if (one != other) {
                    CHECK.due("first of " + one + " and " + other, x.game(one, other, 0, 0, 0), more[one]);
                    CHECK.due("second of " + one + " and " + other, x.game(one, other, 0, 0, 1), more[other]);
                }
            }
        }
    }

    private static void gamesOfEightDays() {
        CHECK.of("==== 3: GAME: behind 8 DAYS, less what it PAYS in them");
        GongHouse x = Check.house("sl0;d;ga7p1;ga8p1");
        CHECK.due("on the eighth", x.game(0, 1, 0, 0, 0), 7 + 2 - 1);
        CHECK.due("the ninth does not count", x.game(0, 1, 0, 0, 1), 0);
        GongHouse y = Check.house("sl0;d;gs8p9;gs9p9;g");
        CHECK.due("8 DAYS", y.game(0, 1, 0, 0, 0), 0);
        CHECK.due("9 DAYS are 8", y.game(0, 1, 0, 0, 1), 0);
        GongHouse left = Check.house("sl0;d;gs20p1;gs20p1");
        Check.rule(left, "y:0-5");
        CHECK.due("LEAVES on the second: -10, 2 paid, 4 for FED", left.game(0, 1, 0, 0, 0), -8);
    }

    private static void gamesRefused() {
        CHECK.of("P32: HIDDEN: no such ones, alike, one LEFT, out of bounds");
        GongHouse x = Check.house("d;gs20;gs20;gs20p0");
        for (int far : new int[] {-1, 3, LOWEST, HIGHEST}) {
            CHECK.due("game(" + far + ", 0, 0, 0, 0)", x.game(far, 0, 0, 0, 0), HIDDEN);
            CHECK.due("game(0, " + far + ", 0, 0, 0)", x.game(0, far, 0, 0, 0), HIDDEN);
            CHECK.due("rests(" + far + ", 0, -1)", x.rests(far, 0, -1), -1);
            CHECK.due("rests(0, " + far + ", -1)", x.rests(0, far, -1), -1);
        }
        for (int far : new int[] {-1, 4, LOWEST, HIGHEST}) {
            CHECK.due("game(0, 1, " + far + ", 0, 0)", x.game(0, 1, far, 0, 0), HIDDEN);
            CHECK.due("game(0, 1, 0, " + far + ", 0)", x.game(0, 1, 0, far, 0), HIDDEN);
        }
        for (int what : new int[] {-1, 2, LOWEST, HIGHEST}) {
            CHECK.due("game(0, 1, 0, 0, " + what + ")", x.game(0, 1, 0, 0, what), HIDDEN);
        }
        for (int guest = 0; guest < 3; guest++) {
            CHECK.due("alike", x.game(guest, guest, 0, 0, 0), HIDDEN);
            CHECK.due("alike", x.rests(guest, guest, -1), -1);
        }
        Check.rule(x, "y:p=0?0-9");
        Check.days(x, 2);
        CHECK.due("the third LEFT", x.count(8), 4);
        CHECK.due("one LEFT", x.game(2, 0, 0, 0, 0), HIDDEN);
        CHECK.due("one LEFT", x.game(0, 2, 0, 0, 0), HIDDEN);
        CHECK.due("one LEFT", x.rests(2, 0, -1), -1);
        CHECK.due("one LEFT", x.rests(0, 2, 0), -1);
        CHECK.due("the others did not", x.game(0, 1, 3, 3, 1) > HIDDEN, true);
        CHECK.due("no HOUSE", new GongHouse().game(0, 1, 0, 0, 0), HIDDEN);
        CHECK.due("no HOUSE", new GongHouse().rests(0, 1, -1), -1);
    }

    private static void rests() {
        CHECK.of("==== 3, P33: RESTS: 10 times x and y by which neither has more by another of its own");
        GongHouse longer = Check.house("sl0;d;gs2p2;gs2p2");
        CHECK.due("each has more by each DAY", longer.rests(0, 1, -1), 1);
        CHECK.due("both three", longer.rests(0, 1, 0), 33);
        GongHouse one = Check.house("sl0;dw0k1;gs2p9;gs2p0");
        CHECK.due("one has less, one more", one.rests(0, 1, 0), 3);
        CHECK.due("turned round", one.rests(1, 0, 0), 30);
        CHECK.due("one alone", one.rests(0, 1, 1), -1);
        CHECK.of("==== 3: RESTS: (having as much by another is no more)");
        GongHouse even = Check.house("sl0;dw0k1;gs2p2;gs2p9");
        CHECK.due("2 for FED, 2 paid", even.rests(0, 1, -1), 4);
        for (int i = 0; i < 4; i++) {
            CHECK.due("rests(0, 1, " + i + ")", even.rests(0, 1, i), 10 * i);
            CHECK.due("rests(1, 0, " + i + ")", even.rests(1, 0, i), i);
        }
        CHECK.of("P33: how many (i NONE), the i-th (rising); NONE: no such one");
        for (int i : new int[] {-2, 4, 15, 16, LOWEST, HIGHEST}) {
            CHECK.due("rests(0, 1, " + i + ")", even.rests(0, 1, i), -1);
        }
    }

    private static void restsOfAll() {
        CHECK.of("P33: sixteen at most, the i-th (rising)");
        GongHouse x = Check.house("d;ga20;ga8");
        CHECK.due("how many", x.rests(0, 1, -1), 16);
        for (int i = 0; i < 16; i++) {
            CHECK.due("rests(0, 1, " + i + ")", x.rests(0, 1, i), 10 * (i / 4) + i % 4);
        }
        CHECK.due("a 17th", x.rests(0, 1, 16), -1);
        CHECK.due("no choice matters in 8 DAYS", Check.house("sl0;d;gs8;gs8").rests(0, 1, -1), 16);
        CHECK.of("P33: how many (none: 0)");
        // The first is THERE on DAYS 2 .. 4 + x, the second on DAYS 1 .. 3 + y. Two PORTIONS has who is THERE one DAY
        // longer than the other: the first if x is y, the second if y is x and 2. A DAY more is worth 0 to the first
        // and -1 to the second, two PORTIONS 21 more: the first wants y, the second never that x.
        GongHouse y = Check.house("d;ga2s3p1;ga1s3p2");
        Check.rule(y, "y:f=2?20;y:0-1");
        y.day();
        for (int a = 0; a <= 3; a++) {
            for (int b = 0; b <= 3; b++) {
                CHECK.due("game(0, 1, " + a + ", " + b + ", 0)", y.game(0, 1, a, b, 0), -2 + (a == b ? 21 : 0));
                CHECK.due("game(0, 1, " + a + ", " + b + ", 1)", y.game(0, 1, a, b, 1), -5 - b + (b == a + 2 ? 21 : 0));
            }
        }
        CHECK.due("none", y.rests(0, 1, -1), 0);
        CHECK.due("no first", y.rests(0, 1, 0), -1);
        CHECK.due("turned round", y.rests(1, 0, -1), 0);
    }

    // ---- promise 34 ----

    private static void odds() {
        CHECK.of("==== 3, P34: ODDS for n (0 .. 4) and a chance (0 .. 100), of 10 to the 9 parts");
        GongHouse x = Check.house("sl0;d;gs20");
        int[] chances = {0, 1, 50, 99, 100};
        for (int chance : chances) {
            CHECK.due("odds(0, 0, " + chance + ") on this DAY", x.odds(0, 0, chance), 1000000000);
            // From HAND 0: in one DAY the HAND is 0 or 1, always FED; so it is in 2, 3; in 4 the HAND is 3 at most.
            for (int n = 1; n <= 4; n++) {
                CHECK.due("odds(0, " + n + ", " + chance + ")", x.odds(0, n, chance), 1000000000);
            }
        }
        CHECK.of("==== 3: ODDS: ahead of each of n DAYS from this one on (n 0: ahead of none)");
        GongHouse y = Check.house("sl1;d;gs20");
        CHECK.due("on this DAY nothing", y.odds(0, 0, 0), 0);
        for (int chance = 0; chance <= 100; chance += 5) {
            long p = chance;
            // HAND above the DAY: nothing is SERVED. DAY 1: ILL once; DAY 2: twice; DAY 3: never (three at most).
            CHECK.due("odds(0, 1, " + chance + ")", y.odds(0, 1, chance), 1000000000 - p * 10000000);
            CHECK.due("odds(0, 2, " + chance + ")", y.odds(0, 2, chance), 1000000000 - p * p * 100000);
            CHECK.due("odds(0, 3, " + chance + ")", y.odds(0, 3, chance), 1000000000);
        }
        CHECK.of("==== 3: ODDS: of the part that has come so far chance 100ths");
        // Two come on DAY 4 and eat what was COOKED 1 .. 3 DAYS ago; nobody was THERE on DAYS 1 and 2, one on DAY 3.
        GongHouse z = Check.house("sl0;d;ga3s20;ga4s20");
        CHECK.due("never ILL: two PORTIONS of today", z.odds(1, 4, 0), 1000000000);
        CHECK.due("always ILL", z.odds(1, 4, 100), 0);
        CHECK.due("no ILLNESS in four DAYS of 99", z.odds(1, 4, 1), 960596010);
        CHECK.due("at most one in four DAYS", z.odds(0, 4, 1), 960596010 + 4 * 9702990);
        CHECK.due("99 of 100: 1 part of 10 to the 8", z.odds(1, 4, 99), 10);
    }

    private static void oddsOfTheHand() {
        CHECK.of("==== 3: ODDS: the cook falls ILL, if that can be (three: he does not)");
        GongHouse x = Check.house("sl3;d;gs20");
        for (int n = 0; n <= 4; n++) {
            CHECK.due("odds(0, " + n + ", 100)", x.odds(0, n, 100), n < 3 ? 0 : 1000000000);
            CHECK.due("odds(0, " + n + ", 33)", x.odds(0, n, 33), n < 3 ? 0 : 1000000000);
        }
        GongHouse two = Check.house("sl2;d;ga3;ga4");
        // HAND 2 or 3 in four DAYS: what was COOKED on DAY 2 or 1 had no PORTION.
        CHECK.due("odds(0, 4, 50)", two.odds(0, 4, 50), 0);
        CHECK.of("==== 3: ODDS: he is FED on the DAY in n (not THERE: not)");
        GongHouse late = Check.house("sl0;d;ga4s1;gs4");
        for (int n = 0; n <= 4; n++) {
            CHECK.due("comes on 4, n " + n, late.odds(0, n, 0), n == 4 ? 1000000000 : 0);
            CHECK.due("goes ahead of 4, n " + n, late.odds(1, n, 0), n == 4 ? 0 : 1000000000);
        }
    }

    private static void oddsRefused() {
        CHECK.of("P34: NONE: no such GUEST, out of bounds");
        GongHouse x = Check.house("sl0;d;g");
        for (int guest : new int[] {-1, 1, LOWEST, HIGHEST}) {
            CHECK.due("odds(" + guest + ", 0, 0)", x.odds(guest, 0, 0), -1);
        }
        for (int n : new int[] {-1, 5, LOWEST, HIGHEST}) {
            CHECK.due("odds(0, " + n + ", 0)", x.odds(0, n, 0), -1);
        }
        for (int chance : new int[] {-1, 101, LOWEST, HIGHEST}) {
            CHECK.due("odds(0, 0, " + chance + ")", x.odds(0, 0, chance), -1);
            CHECK.due("odds(0, 4, " + chance + ")", x.odds(0, 4, chance), -1);
        }
        CHECK.due("no HOUSE", new GongHouse().odds(0, 0, 0), -1);
    }

    // ---- promise 35 ----

    private static void mostOfSeveral() {
        CHECK.of("==== 3, P35: HAPPIEST: the most JOY (of several the lowest)");
        GongHouse x = Check.house("sl0;d;gp1;gp2;gp3;gp4;gp5;gp6");
        CHECK.due("all 0", x.all(0), 0);
        Check.rule(x, "y:p=6?9;y:p=2?5;y:p=4?5");
        x.day();
        CHECK.due("the last", x.all(0), 5);
        x.undo();
        Check.rule(x, "y:p=3?0;y:p=6?0;y:0-1");
        x.day();
        CHECK.due("0 above -1, the lower", x.all(0), 2);
        GongHouse few = Check.house("d;g;g");
        few.day();
        CHECK.due("both -2, and no third", few.all(0), 0);
        CHECK.of("==== 3, P35: LONGEST: who STAYS longest (of several the lowest)");
        GongHouse y = Check.house("d;gs1;gs20;gs20;gs19;g;g");
        CHECK.due("the lower of two", y.all(1), 1);
        y.stay(3, 2);
        CHECK.due("as now", y.all(1), 3);
        y.stay(2, 1);
        CHECK.due("the lower again", y.all(1), 2);
        CHECK.due("all alike", Check.house("d;g;g;g").all(1), 0);
        CHECK.of("==== 3, P35: RICHEST: who PAYS most (of several the lowest)");
        CHECK.due("the lower of two", Check.house("d;gp0;gp9;gp8;gp9").all(2), 1);
        CHECK.due("all 0", Check.house("d;gp0;gp0").all(2), 0);
        CHECK.due("the last", Check.house("d;gp0;gp0;gp0;gp0;gp0;gp1").all(2), 5);
        CHECK.of("==== 3, P35: HOTTEST: the DISH with the most WARMTH (of several the lowest)");
        CHECK.due("the lower of two", Check.house("dw0;dw20;dw19;dw20;g").all(3), 1);
        CHECK.due("all 0", Check.house("dw0;dw0;g").all(3), 0);
        CHECK.due("the last", Check.house("dw0;dw0;dw0;dw0;dw1;g").all(3), 4);
        CHECK.of("==== 3, P35: CHEAPEST: with the least COST (of several the lowest)");
        CHECK.due("the lower of two", Check.house("dc9;dc0;dc1;dc0;g").all(4), 1);
        CHECK.due("all 9", Check.house("dc9;dc9;g").all(4), 0);
        CHECK.due("the last", Check.house("dc9;dc9;dc9;dc9;dc8;g").all(4), 4);
    }

    private static void liked() {
        CHECK.of("==== 3, P35: LIKED: the DISH that most GUESTS who are THERE now LIKE");
        GongHouse x = Check.house("dk0;dk1;dk2;dk2;dk3;gs1l3;gs1l3;gs1l3;gs3l2;gs3l2;ga1s1l1");
        CHECK.due("three on DAY 0", x.all(5), 4);
        x.day();
        CHECK.due("two on DAY 1, the lower DISH", x.all(5), 2);
        x.sign(3, 1);
        CHECK.due("two by a SIGN", x.all(5), 1);
        CHECK.of("==== 3, P35: LIKED: by most of all six, by the fewest there can be");
        CHECK.due("the fourth, by four of six", Check.house("dk3;dk2;dk1;dk0;g;g;g;g;gl3;gl3").all(5), 3);
        CHECK.due("the first, as the second by one", Check.house("dk1;dk0;gl3;gl1;gl0;gl3;gl3;gl3").all(5), 0);
        CHECK.due("the first of two", Check.house("dk3;dk2;gl3;gl3;gl3;gl2;gl2;gl2").all(5), 0);
        CHECK.due("the first by one more", Check.house("dk3;dk2;gl3;gl3;gl3;gl2;gl2").all(5), 0);
        CHECK.due("the second by one more", Check.house("dk3;dk2;gl3;gl3;gl2;gl2;gl2").all(5), 1);
        CHECK.due("the last, by one", Check.house("d;d;d;d;dk1;gl1").all(5), 4);
    }

    private static void waste() {
        CHECK.of("==== 3, P35: WASTE: PORTIONS thrown away on this DAY");
        GongHouse x = Check.house("d;gs1;gs1;gs1;gs1;gs2;gs3");
        CHECK.due("nothing SERVED", x.all(6), 0);
        x.day();
        CHECK.due("six for two, one of them twice", x.all(6), 3);
        x.day();
        CHECK.due("two for one, on his last DAY", x.all(6), 0);
        x.day();
        CHECK.due("one for nobody", x.all(6), 1);
        x.day();
        CHECK.due("none", x.all(6), 0);
    }

    private static void last() {
        CHECK.of("==== 3, P35: LAST: the last DAY on which one who did not LEAVE is THERE as told (NONE: none)");
        CHECK.due("DAY 0", Check.house("d;gs1").all(7), 0);
        CHECK.due("the farthest as told", Check.house("d;gs1;ga20s20;g").all(7), 39);
        GongHouse x = Check.house("d;gs9p1;gs4");
        CHECK.due("LAST", x.all(7), 8);
        x.stay(1, 6);
        CHECK.due("longer", x.all(7), 9);
        x.undo();
        Check.rule(x, "y:p=1?0-9");
        CHECK.due("as told, though he will LEAVE", x.all(7), 8);
        Check.days(x, 2);
        CHECK.due("he LEFT", x.all(7), 3);
        Check.days(x, 5);
        CHECK.due("it is over", x.all(7), 3);
        GongHouse none = Check.house("d;gs20;ga1s20");
        Check.rule(none, "y:0-9");
        Check.days(none, 3);
        CHECK.due("all LEFT", none.all(7), -1);
        GongHouse six = Check.house("d;gl3;gl3;gl3;gl3;gl3;gl3");
        Check.rule(six, "y:0-9");
        Check.days(six, 2);
        CHECK.due("all six LEFT", six.all(7), -1);
    }

    private static void takesAndCooks() {
        CHECK.of("==== 3, P35: TAKES: COINS that those who are THERE now PAY");
        GongHouse x = Check.house("d;d;gs1p9;gs1p8;ga1s1p7;gp0s3");
        CHECK.due("DAY 0", x.all(8), 17);
        x.day();
        CHECK.due("DAY 1", x.all(8), 7);
        x.day();
        CHECK.due("one who PAYS 0", x.all(8), 0);
        x.day();
        CHECK.due("nobody", x.all(8), 0);
        CHECK.due("all there can be", Check.house("d;gp9;gp9;gp9;gp9;gp9;gp9").all(8), 54);
        CHECK.of("==== 3, P35: COOKS: the DISH that is COOKED on this DAY");
        CHECK.due("DAY 3 of two", x.all(9), 1);
        x.choose(0);
        CHECK.due("CHOSEN", x.all(9), 0);
    }

    private static void nothing() {
        CHECK.of("==== 3, P35: NOTHING on this DAY: GUESTS (bits) who are THERE and not FED");
        GongHouse x = Check.house("d;ga1;g;g;g;ga2;g");
        CHECK.due("all who are THERE", x.all(10), 2 | 4 | 8 | 32);
        x.day();
        CHECK.due("who came now", x.all(10), 1);
        x.day();
        CHECK.due("the next", x.all(10), 16);
        x.day();
        CHECK.due("nobody", x.all(10), 0);
        Check.days(x, 9);
        CHECK.due("nobody is THERE", x.all(10), 0);
        CHECK.due("all six", Check.house("d;g;g;g;g;g;g").all(10), 63);
    }

    private static void mustard() {
        CHECK.of("==== 3, P35: MUSTARD: in how many DAYS somebody is THERE first and nobody is FED");
        CHECK.due("on this one", Check.house("d;g").all(11), 0);
        CHECK.due("in 20", Check.house("d;ga20").all(11), 20);
        CHECK.due("never: FED at once", Check.house("sl0;d;gs20;ga20s20").all(11), -1);
        GongHouse some = Check.house("d;gs20;ga1");
        some.day();
        CHECK.due("one is FED, one is not", some.all(11), -1);
        GongHouse gap = Check.house("sl0;d;gs1;ga3s1");
        CHECK.due("HAND 0", gap.all(11), -1);
        gap.ill();
        gap.day();
        CHECK.due("in 2", gap.all(11), 2);
        CHECK.of("==== 3, P35: MUSTARD (0 .. 60; NONE: not within 60)");
        // Who is THERE is so on end, and nobody comes behind DAY 20: what is not within 22 DAYS is never.
        GongHouse x = Check.house("sl3;d;ga20");
        CHECK.due("from DAY 0", x.all(11), 20);
        Check.manyDays(x, 20);
        for (int day = 20; day < 23; day++) {
            CHECK.due("on DAY " + day, x.all(11), 0);
            x.day();
        }
        CHECK.due("FED by what was COOKED on DAY 20", x.fed(0), 1);
        CHECK.due("not within 60", x.all(11), -1);
        CHECK.due("nobody is THERE ever", late("d;gs1", 3).all(11), -1);
    }

    private static void full() {
        CHECK.of("==== 3, P35: FULL: on which of the next 20 DAYS (0 .. 19) most are THERE (of several the first)");
        CHECK.due("on this one", Check.house("d;g").all(12), 0);
        CHECK.due("nobody in 20 DAYS: the first", Check.house("d;ga20;ga20").all(12), 0);
        CHECK.due("on the 19th", Check.house("d;ga19").all(12), 19);
        CHECK.due("one, then two on 19", Check.house("d;gs20;ga19").all(12), 19);
        CHECK.due("two on 20 do not count", Check.house("d;gs20;ga20;ga20").all(12), 0);
        CHECK.due("two on 3 and on 9: the first", Check.house("d;ga3s1;ga3s1;ga9s1;ga9s1").all(12), 3);
        GongHouse x = Check.house("d;ga20;ga20");
        x.day();
        CHECK.due("on the 19th from now", x.all(12), 19);
    }

    private static void allRefused() {
        CHECK.of("P35: NONE: no HOUSE, no such what");
        GongHouse x = Check.house("d;g");
        for (int what : new int[] {-1, 13, LOWEST, HIGHEST}) {
            CHECK.due("all(" + what + ")", x.all(what), -1);
        }
        GongHouse none = new GongHouse();
        for (int what = -1; what <= 13; what++) {
            CHECK.due("all(" + what + ") of no HOUSE", none.all(what), -1);
        }
    }

    // ---- promises 36 and 37 ----

    private static void kinds() {
        CHECK.of("==== 3, P36: KINDS of a KIND: DISHES (bits)");
        GongHouse x = Check.house("dk0;dk3;dk1;dk3;dk0;g");
        int[] want = {1 | 16, 4, 0, 2 | 8};
        for (int kind = 0; kind < 4; kind++) {
            CHECK.due("kinds(" + kind + ")", x.kinds(kind), want[kind]);
        }
        CHECK.due("all five", Check.house("d;d;d;d;d;g").kinds(0), 31);
        CHECK.of("P36: NONE: no HOUSE, no such KIND");
        for (int kind : new int[] {-1, 4, LOWEST, HIGHEST}) {
            CHECK.due("kinds(" + kind + ")", x.kinds(kind), -1);
        }
        CHECK.due("no HOUSE", new GongHouse().kinds(0), -1);
    }

    private static void staying() {
        CHECK.of("==== 3, P37: STAYING: how many DAYS he has to come (with this one; 0: none)");
        GongHouse x = Check.house("d;gs3;ga2s2;gs20p0");
        int[] first = {3, 2, 1, 0, 0};
        int[] second = {2, 2, 2, 1, 0};
        for (int day = 0; day < first.length; day++) {
            CHECK.due("the first on DAY " + day, x.staying(0), first[day]);
            CHECK.due("the second on DAY " + day, x.staying(1), second[day]);
            x.day();
        }
        CHECK.due("on DAY 5", x.staying(2), 15);
        x.stay(0, 2);
        CHECK.due("DAYS 0 .. 4", x.staying(0), 0);
        x.stay(0, 1);
        CHECK.due("DAYS 0 .. 5", x.staying(0), 1);
        Check.rule(x, "y:p=0?0-9");
        Check.days(x, 6);
        CHECK.due("he LEFT", x.count(8), 4);
        CHECK.due("none", x.staying(2), 0);
        CHECK.of("P37: NONE: no such GUEST");
        for (int guest : new int[] {-1, 3, LOWEST, HIGHEST}) {
            CHECK.due("staying(" + guest + ")", x.staying(guest), -1);
        }
        for (int far : OUTSIDE) {
            CHECK.due("no HOUSE", new GongHouse().staying(far), -1);
        }
        CHECK.due("no HOUSE", new GongHouse().staying(0), -1);
    }
}
