/**
 * The boundaries that the document names for a DAY and for the LOG (==== 2, promises 6 to 11 and 19), a sentence
 * at a time: each CHECK.of says which. The answers were worked out from the document's words.
 */
public final class BoundsOfDaysTest {
    private static final int HIDDEN = -1000000;
    private static final int LOWEST = Integer.MIN_VALUE;
    private static final int HIGHEST = Integer.MAX_VALUE;
    private static final int[] FAR = {LOWEST, HIGHEST};
    private static final Check CHECK = new Check("BoundsOfDaysTest");

    public static void main(String[] args) {
        rules();
        dishes();
        guests();
        laws();
        fever();
        thereFromTo();
        thereAtTheFarEnd();
        lastOfAllDays();
        cooked();
        portions();
        coinsAtLeast();
        coinsAtMost();
        servedByTheHand();
        servedAheadOfTheFirst();
        servedByTheHandNow();
        warmth();
        fedInOrder();
        fedOnceMore();
        joyWithoutLaw();
        worthHeld();
        joyAtMost();
        letters();
        lettersOfNothing();
        leaving();
        log();
        logOfSixty();
        fedByADay();
        CHECK.finish();
    }

    private static int joy(GongHouse x, int guest) {
        return Check.guest(x, guest, 4);
    }

    // ---- promises 6 to 10 ----

    private static void rules() {
        CHECK.of("P6: 0 the HAND now, 1 how much COLDER, 2 COINS now");
        GongHouse x = Check.house("sl2h9c7;d;g");
        x.makeUp();
        CHECK.due("rule(0)", x.rule(0), 1);
        CHECK.due("rule(1)", x.rule(1), 9);
        CHECK.due("rule(2)", x.rule(2), 2);
        CHECK.of("P6: NONE: no HOUSE, no such what");
        int[] wrong = {-1, 3, LOWEST, HIGHEST};
        for (int what : wrong) {
            CHECK.due("rule(" + what + ")", x.rule(what), -1);
            CHECK.due("rule(" + what + ") of no HOUSE", new GongHouse().rule(what), -1);
        }
        for (int what = 0; what < 3; what++) {
            CHECK.due("rule(" + what + ") of no HOUSE", new GongHouse().rule(what), -1);
        }
    }

    private static void dishes() {
        CHECK.of("P7: Of a DISH: 0 WARMTH, 1 COST, 2 KIND");
        GongHouse x = Check.house("dw1c2k3;d;d;d;dw20c9k1;g");
        int[][] want = {{1, 2, 3}, {20, 9, 1}};
        for (int what = 0; what < 3; what++) {
            CHECK.due("the first", x.dish(0, what), want[0][what]);
            CHECK.due("the fifth", x.dish(4, what), want[1][what]);
        }
        CHECK.of("P7: NONE: no such ones");
        for (int dish : new int[] {-1, 5, LOWEST, HIGHEST}) {
            CHECK.due("dish(" + dish + ", 0)", x.dish(dish, 0), -1);
        }
        for (int what : new int[] {-1, 3, LOWEST, HIGHEST}) {
            CHECK.due("dish(4, " + what + ")", x.dish(4, what), -1);
            CHECK.due("dish(0, " + what + ")", x.dish(0, what), -1);
        }
        GongHouse one = Check.house("d;g");
        CHECK.due("a second of one", one.dish(1, 0), -1);
        CHECK.due("of no HOUSE", new GongHouse().dish(0, 0), -1);
    }

    private static void guests() {
        CHECK.of("P8: 0 the DAY he comes, 1 STAYS, 2 KIND, 3 PAYS, 4 JOY, 5 whether he LEFT (1, 0), as now");
        GongHouse x = Check.house("sl0;dw20;g;g;g;g;g;ga2s20l3p9");
        int[] first = {2, 20, 3, 9, 0, 0};
        for (int what = 0; what < 6; what++) {
            CHECK.due("guest(5, " + what + ")", Check.guest(x, 5, what), first[what]);
        }
        x.stay(5, 4);
        x.sign(5, 1);
        Check.rule(x, "y:p=9?0-9;y:1");
        Check.days(x, 4);
        int[] then = {2, 24, 1, 9, -18, 1};
        for (int what = 0; what < 6; what++) {
            CHECK.due("guest(5, " + what + ") then", Check.guest(x, 5, what), then[what]);
        }
        CHECK.of("P8: NoSuchElementException: no such ones");
        for (int guest : new int[] {-1, 6, LOWEST, HIGHEST}) {
            CHECK.due("guest(" + guest + ", 0)", Check.guest(x, guest, 0), -1000);
        }
        for (int what : new int[] {-1, 6, LOWEST, HIGHEST}) {
            CHECK.due("guest(5, " + what + ")", Check.guest(x, 5, what), -1000);
            CHECK.due("guest(0, " + what + ")", Check.guest(x, 0, what), -1000);
        }
        CHECK.due("a second of one", Check.guest(Check.house("d;g"), 1, 0), -1000);
        CHECK.due("of no HOUSE", Check.guest(new GongHouse(), 0, 0), -1000);
    }

    private static void laws() {
        CHECK.of("P9: The LAW that holds (NONE: none). False: no such one");
        GongHouse x = new GongHouse();
        CHECK.due("none at first", x.count(5), -1);
        CHECK.due("none, without a LAW", x.law(-1), true);
        CHECK.due("law(0) without a LAW", x.law(0), false);
        for (int i = 0; i < 4; i++) {
            CHECK.due("law(" + i + ") of " + i, x.law(i), false);
            CHECK.due("as it was", x.count(5), i - 1);
            Check.tape(x, "y:" + i);
            x.text(1);
            CHECK.due("law(" + i + ")", x.law(i), true);
            CHECK.due("holds", x.count(5), i);
            CHECK.due("law(" + i + ") again", x.law(i), true);
        }
        for (int law : new int[] {4, -2, LOWEST, HIGHEST}) {
            CHECK.due("law(" + law + ")", x.law(law), false);
            CHECK.due("as it was", x.count(5), 3);
        }
        CHECK.due("none", x.law(-1), true);
        CHECK.due("none holds", x.count(5), -1);
        CHECK.of("P9: a LAW that is told does not hold by that");
        GongHouse y = Check.house("d;g");
        Check.tape(y, "y:20");
        y.text(1);
        y.day();
        CHECK.due("not FED: -2", joy(y, 0), -2);
    }

    private static void fever() {
        CHECK.of("P10, ==== 4: FEVER (0 .. 9; 1 at first). False: out of bounds, it is so");
        GongHouse x = new GongHouse();
        CHECK.due("at first", x.count(9), 1);
        CHECK.due("it is so", x.fever(1), false);
        for (int v : new int[] {-1, 10, LOWEST, HIGHEST}) {
            CHECK.due("fever(" + v + ")", x.fever(v), false);
            CHECK.due("as it was", x.count(9), 1);
        }
        CHECK.due("the least", x.fever(0), true);
        CHECK.due("the least is so", x.fever(0), false);
        CHECK.due("now", x.count(9), 0);
        CHECK.due("the most", x.fever(9), true);
        CHECK.due("the most is so", x.fever(9), false);
        CHECK.due("now", x.count(9), 9);
    }

    // ---- ==== 2: THERE ----

    private static void thereFromTo() {
        CHECK.of("==== 2: THERE: not ahead of the DAY on which he comes, not as many DAYS behind it as he STAYS");
        GongHouse x = Check.house("sl0;d;ga2s3;gs1;ga4s1");
        int[] want = {2, 0, 1, 1, 1 | 4, 0, 0};
        for (int day = 0; day < want.length; day++) {
            CHECK.due("ahead, in " + day, Check.house("sl0;d;ga2s3;gs1;ga4s1").there(day), want[day]);
            CHECK.due("on DAY " + day, x.there(0), want[day]);
            CHECK.due("FED on DAY " + day, x.day(), Integer.bitCount(want[day]));
        }
        CHECK.of("==== 2: THERE: he did not LEAVE");
        GongHouse y = Check.house("d;gs20;gs20");
        Check.rule(y, "y:d=1?0-9;y:d=0?0-1");
        y.day();
        CHECK.due("there", y.there(0), 3);
        y.day();
        CHECK.due("both LEFT", y.there(0), 0);
        CHECK.due("not FED, not THERE", y.fed(0), -1);
    }

    private static void thereAtTheFarEnd() {
        CHECK.of("==== 2: comes on 20 at most, STAYS 99 at most: the last DAY is 118");
        GongHouse x = Check.house("sl0;d;ga20s20");
        for (int i = 0; i < 8; i++) {
            x.stay(0, 9);
        }
        CHECK.due("99", x.stay(0, 7), 99);
        CHECK.due("LAST", x.all(7), 118);
        Check.manyDays(x, 19);
        CHECK.due("on 19", x.there(0), 0);
        CHECK.due("on 20", x.there(1), 1);
        Check.days(x, 99);
        CHECK.due("on 118", x.there(0), 1);
        CHECK.due("on 119", x.there(1), 0);
        Check.rule(x, "y:d=118&n=98?7");
        int before = joy(x, 0);
        x.day();
        CHECK.due("n is 98, d is 118", joy(x, 0) - before, 7);
        CHECK.due("nobody is there", x.day(), 0);
    }

    private static void lastOfAllDays() {
        CHECK.of("==== 2, P11: A DAY (0 at first; 999 at most: none goes by then)");
        GongHouse x = Check.house("sl1;d;d;d;d;dw7;g");
        CHECK.due("at first", x.count(6), 0);
        Check.manyDays(x, 998);
        CHECK.due("998", x.count(6), 998);
        CHECK.due("a DAY", x.day(), 0);
        CHECK.due("999", x.count(6), 999);
        CHECK.due("none goes by", x.day(), -1);
        CHECK.due("999 still", x.count(6), 999);
        CHECK.due("the LOG's latest is that of 998", x.log(0, 0), 997 % 5);
        CHECK.due("COOKS on 999", x.all(9), 4);
        CHECK.due("other ACTS can be", x.choose(2), -1);
        CHECK.due("COOKS", x.all(9), 2);
        CHECK.due("ill", x.ill(), 2);
        CHECK.due("forty", x.count(12), 40);
        x.undo();
        x.undo();
        CHECK.due("UNDONE: 998", x.undo(), 37);
        CHECK.due("998", x.count(6), 998);
        CHECK.due("one DAY again", x.day(), 0);
        CHECK.due("and none", x.day(), -1);
        CHECK.of("P11: NONE: no HOUSE");
        CHECK.due("no HOUSE", new GongHouse().day(), -1);
    }

    // ---- ==== 2 (1): COOKED ----

    private static void cooked() {
        CHECK.of("==== 2 (1): COOKED: the DISH whose number is the DAY modulo how many there are");
        for (int dishes = 1; dishes <= 5; dishes++) {
            GongHouse x = Check.house("sl0" + ";d".repeat(dishes) + ";g");
            for (int day = 0; day < 12; day++) {
                CHECK.due("COOKS on DAY " + day + " of " + dishes, x.all(9), day % dishes);
                x.day();
                CHECK.due("SERVED on DAY " + day + " of " + dishes, x.log(0, 0), day % dishes);
            }
        }
        CHECK.of("==== 2 (1): COOKED: the DISH that was CHOSEN for it");
        GongHouse y = Check.house("sl0;d;d;d;d;d;g");
        y.choose(4);
        CHECK.due("COOKS", y.all(9), 4);
        y.day();
        CHECK.due("SERVED", y.log(0, 0), 4);
        CHECK.due("for that DAY alone", y.all(9), 1);
        y.choose(0);
        y.day();
        CHECK.due("the first can be CHOSEN, too", y.log(0, 0), 0);
    }

    private static void portions() {
        CHECK.of("==== 2 (1): PORTIONS: as many as GUESTS are THERE");
        GongHouse x = Check.house("sl0;d;gs1;gs2;gs3;gs4;gs5;gs6");
        for (int n = 6; n >= 0; n--) {
            CHECK.due("PORTIONS", x.serves(0, 2), n);
            CHECK.due("all are FED", x.day(), n);
        }
        CHECK.of("==== 2 (1): PORTIONS: six at most, whatever they LIKE");
        GongHouse six = Check.house("sl0c99;dc9;gl3p0;gl3p0;gl3p0;gl3p0;gl3p0;gl3p0");
        for (int day = 0; day < 7; day++) {
            CHECK.due("THERE on DAY " + day, six.there(0), 63);
            CHECK.due("PORTIONS on DAY " + day, six.serves(0, 2), 6);
            CHECK.due("nothing is left on DAY " + day, six.all(6), 0);
            CHECK.due("all are FED on DAY " + day, six.day(), 6);
            CHECK.due("99 less six times 9, then 0", six.rule(2), day == 0 ? 45 : 0);
        }
        CHECK.due("nobody on DAY 7", six.serves(0, 2), 0);
        CHECK.of("==== 2 (2): what was COOKED for nobody is SERVED with its 0 PORTIONS");
        GongHouse y = Check.house("sl1;d;dw9k1;ga2");
        Check.days(y, 2);
        CHECK.due("DISH", y.serves(0, 0), 1);
        CHECK.due("WARMTH", y.serves(0, 1), 6);
        CHECK.due("PORTIONS", y.serves(0, 2), 0);
        CHECK.due("nobody is FED", y.day(), 0);
        CHECK.due("the LOG has the DISH", y.log(0, 0), 1);
        CHECK.due("not FED: -2", joy(y, 0), -2);
    }

    private static void coinsAtLeast() {
        CHECK.of("==== 2 (1): COINS less by COST for each (0 at least)");
        int[][] rows = {{9, 4, 2, 1}, {8, 4, 2, 0}, {7, 4, 2, 0}, {0, 9, 1, 0}, {0, 0, 1, 0}, {54, 9, 6, 0},
            {55, 9, 6, 1}, {53, 9, 6, 0}, {99, 0, 6, 99}};
        for (int[] row : rows) {
            GongHouse x = Check.house("sc" + row[0] + ";dc" + row[1] + ";gp0".repeat(row[2]));
            x.day();
            CHECK.due(row[0] + " less " + row[2] + " times " + row[1], x.rule(2), row[3]);
        }
        CHECK.of("==== 2 (1): nobody THERE: nothing is less");
        GongHouse none = Check.house("sc5;dc9;ga1");
        none.day();
        CHECK.due("COINS", none.rule(2), 5);
        CHECK.of("==== 2 (1), (5): COOKED first, PAYS behind it");
        GongHouse y = Check.house("sc3;dc9;gp4");
        y.day();
        CHECK.due("0, then 4", y.rule(2), 4);
        CHECK.of("==== 2 (1): COST of what is COOKED, not of what is SERVED");
        GongHouse z = Check.house("sl1c50;dc9;dc1;gp0");
        z.day();
        CHECK.due("50 less 9", z.rule(2), 41);
        z.day();
        CHECK.due("41 less 1", z.rule(2), 40);
    }

    private static void coinsAtMost() {
        CHECK.of("==== 2 (5): he PAYS: COINS more (999 at most)");
        String five = ";gp9s20".repeat(5);
        GongHouse exact = Check.house("sl0c99;dc0w20" + five);
        Check.days(exact, 19);
        CHECK.due("19 DAYS", exact.rule(2), 954);
        exact.day();
        CHECK.due("999 and no more", exact.rule(2), 999);
        GongHouse below = Check.house("sl0c98;dc0w20" + five + ";ga20p2");
        Check.days(below, 20);
        CHECK.due("998", below.rule(2), 998);
        below.day();
        CHECK.due("1000 is 999", below.rule(2), 999);
        CHECK.of("==== 2 (5): COINS at 999 get less by what is COOKED next");
        GongHouse held = Check.house("sl0c99;dc0w20;dc5w20" + five + ";ga20p2");
        for (int i = 0; i < 20; i++) {
            held.choose(0);
            held.day();
        }
        CHECK.due("999", held.rule(2), 999);
        held.choose(1);
        held.day();
        CHECK.due("999 less 5 and 2 more", held.rule(2), 996);
    }

    // ---- ==== 2 (2): SERVED ----

    private static void servedByTheHand() {
        CHECK.of("==== 2 (2): SERVED: what was COOKED as many DAYS ago as the HAND is (0: today)");
        for (int hand = 0; hand <= 3; hand++) {
            GongHouse x = Check.house("sl" + hand + "h1;dw20;dw19;dw18;dw17;dw16;gs20");
            for (int day = 0; day < 12; day++) {
                int dish = day < hand ? -1 : (day - hand) % 5;
                CHECK.due("HAND " + hand + ", DAY " + day, x.serves(0, 0), dish);
                CHECK.due("WARMTH", x.serves(0, 1), dish < 0 ? -1 : 20 - dish - hand);
                CHECK.due("PORTIONS", x.serves(0, 2), dish < 0 ? -1 : 1);
                x.day();
                CHECK.due("LOG", x.log(0, 0), dish);
            }
        }
        CHECK.of("==== 2 (2): with its PORTIONS");
        GongHouse y = Check.house("sl3;d;gs1;gs1;gs2;gs4;gs4");
        int[] there = {5, 3, 2, 2};
        for (int day = 0; day < 7; day++) {
            CHECK.due("PORTIONS on DAY " + day, y.serves(0, 2), day < 3 ? -1 : there[day - 3]);
            y.day();
        }
    }

    private static void servedAheadOfTheFirst() {
        CHECK.of("==== 2 (2): ahead of the first DAY nothing was");
        for (int hand = 1; hand <= 3; hand++) {
            GongHouse x = Check.house("sl" + hand + ";d;g");
            for (int day = 0; day < hand; day++) {
                CHECK.due("HAND " + hand + ", DAY " + day, x.day(), 0);
                CHECK.due("nothing", x.log(0, 0), -1);
            }
            CHECK.due("HAND " + hand + ": the first", x.day(), 1);
            CHECK.due("the first", x.log(0, 0), 0);
        }
    }

    private static void servedByTheHandNow() {
        CHECK.of("==== 2 (2): as the HAND is now");
        GongHouse x = Check.house("sl1h2c99;dw20;dw19;dw18;dw17;dw16;gs20");
        Check.days(x, 9);
        int[] hands = {1, 2, 3};
        for (int hand : hands) {
            CHECK.due("HAND", x.rule(0), hand);
            CHECK.due("DISH of HAND " + hand, x.serves(0, 0), (9 - hand) % 5);
            CHECK.due("WARMTH of HAND " + hand, x.serves(0, 1), 20 - (9 - hand) % 5 - 2 * hand);
            x.ill();
        }
        for (int hand = 2; hand >= 0; hand--) {
            CHECK.due("made UP", x.makeUp(), hand);
            CHECK.due("DISH of HAND " + hand, x.serves(0, 0), (9 - hand) % 5);
        }
        CHECK.of("==== 2 (2): the same can be SERVED twice, and one be left out");
        GongHouse y = Check.house("sl1c99;d;d;d;d;d;gs20");
        Check.days(y, 3);
        CHECK.due("DAY 2: of DAY 1", y.log(0, 0), 1);
        y.ill();
        y.day();
        CHECK.due("DAY 3: of DAY 1 again", y.log(0, 0), 1);
        y.makeUp();
        y.makeUp();
        y.day();
        CHECK.due("DAY 4: of today", y.log(0, 0), 4);
    }

    private static void warmth() {
        CHECK.of("==== 2 (2): WARMTH: its own, less COLDER for each DAY of the HAND (0 at least)");
        int[][] rows = {{3, 3, 10, 1}, {3, 3, 9, 0}, {3, 3, 8, 0}, {1, 9, 10, 1}, {1, 9, 9, 0}, {1, 9, 8, 0},
            {3, 9, 20, 0}, {2, 9, 20, 2}, {3, 0, 20, 20}, {3, 0, 0, 0}, {0, 9, 20, 20}, {0, 9, 0, 0}, {1, 3, 0, 0}};
        for (int[] row : rows) {
            GongHouse x = Check.house("sl" + row[0] + "h" + row[1] + ";dw" + row[2] + ";g");
            CHECK.due(row[2] + " less " + row[1] + " times " + row[0], x.serves(row[0], 1), row[3]);
        }
    }

    // ---- ==== 2 (3): FED ----

    private static void fedInOrder() {
        CHECK.of("==== 2 (3): the first to have come first (of several the lowest), as long as there are any");
        // On DAY 0 two were THERE, on DAY 1 four, on DAY 2 all six; the HAND tells whose PORTIONS are eaten on DAY 2.
        String guests = ";ga2;ga1;ga2;g;ga1;g";
        int[] cooked = {2, 4, 6};
        int[][] fed = {{3, 5}, {3, 5, 1, 4}, {3, 5, 1, 4, 0, 2}};
        for (int hand = 0; hand <= 2; hand++) {
            GongHouse x = Check.house("sl" + hand + ";d" + guests);
            Check.days(x, 2);
            CHECK.due("PORTIONS by HAND " + hand, x.serves(0, 2), cooked[2 - hand]);
            int bits = 0;
            for (int guest : fed[2 - hand]) {
                bits |= 1 << guest;
            }
            for (int guest = 0; guest < 6; guest++) {
                CHECK.due("fed(" + guest + ") by HAND " + hand, x.fed(guest), bits >> guest & 1);
            }
            CHECK.due("who sits to nothing by HAND " + hand, x.all(10), 63 & ~bits);
            CHECK.due("thrown away", x.all(6), 0);
            CHECK.due("FED", x.day(), Integer.bitCount(bits));
            CHECK.due("who", x.log(0, 1), bits);
        }
        CHECK.of("==== 2 (3): no PORTION is left for the last");
        GongHouse y = Check.house("sl1;d;ga1;g;ga1");
        y.day();
        CHECK.due("one PORTION", y.serves(0, 2), 1);
        CHECK.due("the first to have come", y.fed(1), 1);
        CHECK.due("the next", y.fed(0), 0);
        CHECK.due("the last", y.fed(2), 0);
    }

    private static void fedOnceMore() {
        CHECK.of("==== 2 (3): of what is left one more each to those whose last DAY it is (by numbers)");
        // On DAY 1 three are THERE, 1 and 2 for the last time; what is left was COOKED for those who are gone.
        for (int more = 0; more <= 3; more++) {
            GongHouse x = Check.house("d;gs9;gs2;gs2" + ";gs1".repeat(more));
            x.day();
            CHECK.due("PORTIONS", x.serves(0, 2), 3 + more);
            CHECK.due("not his last, " + more + " left", x.fed(0), 1);
            CHECK.due("the lower, " + more + " left", x.fed(1), more >= 1 ? 2 : 1);
            CHECK.due("the higher, " + more + " left", x.fed(2), more >= 2 ? 2 : 1);
            CHECK.due("the rest is thrown away", x.all(6), Math.max(0, more - 2));
            CHECK.due("FED counts each once", x.day(), 3);
            CHECK.due("bits", x.log(0, 1), 7);
        }
        CHECK.of("==== 2 (3): by numbers, not by who came first");
        GongHouse y = Check.house("sl2;d;ga1s2;gs3;gs1");
        Check.days(y, 2);
        CHECK.due("two PORTIONS of DAY 0", y.serves(0, 2), 2);
        CHECK.due("none is left", y.fed(0) + y.fed(1), 2);
        GongHouse z = Check.house("sl2;d;ga1s2;gs3;gs1;gs1");
        Check.days(z, 2);
        CHECK.due("three PORTIONS of DAY 0", z.serves(0, 2), 3);
        CHECK.due("the lower came later", z.fed(0), 2);
        CHECK.due("the higher came first", z.fed(1), 1);
        CHECK.of("==== 2 (3): his last DAY (the one ahead of it and the one behind it are not)");
        GongHouse s = Check.house("sl0;d;d;gs3;gs1");
        CHECK.due("HAND 0 leaves nothing", s.fed(1), 1);
        GongHouse t = Check.house("d;gs3;gs1");
        t.day();
        CHECK.due("one ahead of his last", t.fed(0), 1);
        CHECK.due("one is thrown away", t.all(6), 1);
        t.stay(0, 1);
        t.ill();
        t.day();
        CHECK.due("it was his last as told at first", t.fed(0), 1);
        CHECK.due("two PORTIONS of DAY 0", t.serves(0, 2), 2);
        CHECK.due("one is thrown away", t.all(6), 1);
        CHECK.of("==== 2 (3): who LEFT has nothing on what would have been his last DAY");
        GongHouse left = Check.house("sl2;d;gs5;gs4p1;gs2;gs2");
        Check.rule(left, "y:p=1?0-4");
        Check.days(left, 3);
        CHECK.due("he LEFT on DAY 2", left.count(8), 2);
        CHECK.due("four PORTIONS of DAY 1", left.serves(0, 2), 4);
        CHECK.due("one", left.fed(0), 1);
        CHECK.due("three are thrown away", left.all(6), 3);
        CHECK.of("==== 2 (3): nobody is THERE: all is thrown away");
        GongHouse gone = Check.house("d;gs1;gs1;gs1;gs1;gs1;gs1");
        gone.day();
        CHECK.due("WASTE", gone.all(6), 6);
        CHECK.due("nobody is FED", gone.day(), 0);
        CHECK.due("WASTE of nothing", gone.all(6), 0);
    }

    // ---- ==== 2 (4): JOY ----

    private static void joyWithoutLaw() {
        CHECK.of("==== 2 (4): none: FED: WARMTH by 3, cut, and 3, if he LIKES the KIND");
        for (int w = 0; w <= 20; w++) {
            GongHouse x = Check.house("sl0;dw" + w + "k2;gl2;gl3");
            x.day();
            CHECK.due("LIKES, WARMTH " + w, joy(x, 0), w / 3 + 3);
            CHECK.due("does not, WARMTH " + w, joy(x, 1), w / 3);
        }
        CHECK.of("==== 2 (4): none: FED two PORTIONS is FED");
        GongHouse two = Check.house("d;gs2;gs1");
        Check.days(two, 2);
        CHECK.due("-2 and 6", joy(two, 0), 4);
        CHECK.of("==== 2 (4): none: not FED: -2");
        GongHouse none = Check.house("sl3;d;g");
        none.day();
        CHECK.due("nothing SERVED", joy(none, 0), -2);
        GongHouse late = Check.house("dw20;g;ga1");
        Check.days(late, 2);
        CHECK.due("SERVED, he LIKES it, but no PORTION", joy(late, 1), -2);
        CHECK.of("==== 2 (4): JOY of each who is THERE");
        GongHouse gone = Check.house("sl0;d;gs1;ga1");
        CHECK.due("FED on DAY 0", gone.day(), 1);
        CHECK.due("not THERE yet", joy(gone, 1), 0);
        gone.day();
        CHECK.due("not THERE any more", joy(gone, 0), 7);
    }

    private static void worthHeld() {
        CHECK.of("==== 2 (4): WORTH by the LAW that holds, held within -9 .. 20");
        String[] laws = {"y:19", "y:20", "y:21", "y:9999*9999", "y:0-8", "y:0-9", "y:0-10", "y:[0-9999]*9999", "y:0"};
        int[] want = {19, 20, 20, 20, -8, -9, -9, -9, 0};
        for (int i = 0; i < laws.length; i++) {
            GongHouse x = Check.house("d;g");
            Check.rule(x, laws[i]);
            x.day();
            CHECK.due("JOY by " + laws[i], joy(x, 0), want[i]);
        }
    }

    private static void joyAtMost() {
        CHECK.of("==== 2 (4): JOY (0 at first; -99 .. 999)");
        GongHouse x = Check.house("d;gs20");
        for (int i = 0; i < 8; i++) {
            x.stay(0, 9);
        }
        Check.rule(x, "y:d=49?18;y:d=52?0-1;y:d>49&d<52?1;y:20");
        Check.days(x, 49);
        CHECK.due("49 times 20", joy(x, 0), 980);
        x.day();
        CHECK.due("998", joy(x, 0), 998);
        x.day();
        CHECK.due("999", joy(x, 0), 999);
        x.day();
        CHECK.due("999 at most", joy(x, 0), 999);
        x.day();
        CHECK.due("one less than 999", joy(x, 0), 998);
        x.day();
        CHECK.due("20 more is 999", joy(x, 0), 999);
        // One LEAVES at -10, from -9 at least, by -9 at most: below -18 nobody comes, so -99 can't be seen.
        GongHouse y = Check.house("d;gs20");
        Check.rule(y, "y:0-9");
        Check.days(y, 3);
        CHECK.due("the least that can be", joy(y, 0), -18);
    }

    private static void letters() {
        CHECK.of("==== 2 (4): letters: w, l, f PORTIONS he is FED (0, 1, 2), n, p, d");
        // DAY 0 nothing; DAY 1: of three PORTIONS 0 has one, 1 (his last DAY) two; DAY 2: 3 comes, two PORTIONS.
        String house = "sh4;dw20k1;dw9k2;gs3l1p0;gs2l2p9;gs1l1;ga2s1l2p5";
        String letters = "wlfnpd";
        int[][] first = {{0, 0, 0, 0, 0, 0}, {16, 1, 1, 1, 0, 1}, {5, 0, 1, 2, 0, 2}};
        int[][] second = {{0, 0, 0, 0, 9, 0}, {16, 0, 2, 1, 9, 1}, {0, 0, 0, 0, 0, 0}};
        int[][] fourth = {{0, 0, 0, 0, 0, 0}, {0, 0, 0, 0, 0, 0}, {5, 1, 1, 0, 5, 2}};
        for (int k = 0; k < letters.length(); k++) {
            GongHouse x = Check.house(house);
            Check.rule(x, "y:" + letters.charAt(k));
            int[] joys = new int[4];
            for (int day = 0; day < 3; day++) {
                x.day();
                CHECK.due(letters.charAt(k) + " of the first, DAY " + day, joy(x, 0) - joys[0], first[day][k]);
                CHECK.due(letters.charAt(k) + " of the second, DAY " + day, joy(x, 1) - joys[1], second[day][k]);
                CHECK.due(letters.charAt(k) + " of the fourth, DAY " + day, joy(x, 3) - joys[3], fourth[day][k]);
                for (int guest = 0; guest < 4; guest++) {
                    joys[guest] = joy(x, guest);
                }
            }
        }
        CHECK.of("==== 2 (4): n how many DAYS he has been THERE ahead of this one (by when he came)");
        GongHouse gap = Check.house("d;gs1");
        Check.rule(gap, "y:n");
        Check.days(gap, 4);
        gap.stay(0, 4);
        gap.day();
        CHECK.due("by when he came, not by where he was", joy(gap, 0), 4);
    }

    private static void lettersOfNothing() {
        CHECK.of("==== 2 (4): w WARMTH (nothing SERVED: 0); l whether he LIKES the KIND that is SERVED");
        for (String letter : new String[] {"w", "l", "f"}) {
            GongHouse x = Check.house("sl1h0;dw20k0;gl0");
            Check.rule(x, "y:" + letter);
            x.day();
            CHECK.due(letter + " of nothing", joy(x, 0), 0);
        }
        CHECK.of("==== 2 (4): w and l tell what is SERVED, FED or not");
        GongHouse y = Check.house("sh2;dw9k3;g;ga1l3");
        Check.rule(y, "y:f=0?w+l");
        Check.days(y, 2);
        CHECK.due("WARMTH 7, the KIND is LIKED, no PORTION", joy(y, 1), 8);
    }

    private static void leaving() {
        CHECK.of("==== 2 (6): one with JOY of -10 or less LEAVES");
        int[] seconds = {0, 1, 2, 9};
        for (int second : seconds) {
            GongHouse x = Check.house("d;gs20");
            Check.rule(x, "y:d=0?0-9;y:d=1?0-" + second);
            x.day();
            CHECK.due("-9 stays", x.count(8), 0);
            x.day();
            CHECK.due("JOY", joy(x, 0), -9 - second);
            CHECK.due("-9 less " + second, x.count(8), second >= 1 ? 1 : 0);
            CHECK.due("LEFT", Check.guest(x, 0, 5), second >= 1 ? 1 : 0);
        }
        CHECK.of("==== 2 (5), (6): he PAYS first; from the next DAY on he is not THERE");
        GongHouse y = Check.house("sc0;dc0;gs20p9");
        Check.rule(y, "y:0-5");
        Check.days(y, 2);
        CHECK.due("PAID twice", y.rule(2), 18);
        y.day();
        CHECK.due("and no more", y.rule(2), 18);
        CHECK.due("JOY as it was", joy(y, 0), -10);
        CHECK.due("who LEFT (bits)", y.count(8), 1);
        CHECK.of("P40: 7 JOY of all (six GUESTS, 0 at first)");
        GongHouse six = Check.house("d;gl3;gl3;gl3;gl3;gl3;gl3");
        CHECK.due("0 at first", six.count(7), 0);
        six.day();
        CHECK.due("six times -2", six.count(7), -12);
        CHECK.due("in the LOG, too", six.log(0, 2), -12);
        CHECK.of("P40: 8 who LEFT (bits)");
        GongHouse all = Check.house("d;g;g;g;g;g;gp1");
        Check.rule(all, "y:p=3?0-9");
        Check.days(all, 2);
        CHECK.due("all but the last", all.count(8), 31);
        Check.rule(all, "y:0-9");
        Check.days(all, 2);
        CHECK.due("all", all.count(8), 63);
    }

    // ---- the LOG, promises 11 and 19 ----

    private static void log() {
        CHECK.of("==== 2, P19: LOG: the DISH SERVED (NONE: nothing), who was FED (bits), JOY of all then");
        GongHouse x = Check.house("dw3k1;dw12k1;g;gs1;ga1l1");
        CHECK.due("empty", x.log(0, 0), HIDDEN);
        Check.days(x, 3);
        // DAY 0: -2 and -2; DAY 1: 0 and 2 have the two PORTIONS, cold: 0 and 3; DAY 2: 3 and 3 + 3.
        int[][] want = {{1, 5, -4 + 3 + 9}, {0, 5, -4 + 3}, {-1, 0, -4}};
        for (int i = 0; i < 3; i++) {
            for (int what = 0; what < 3; what++) {
                CHECK.due("log(" + i + ", " + what + ")", x.log(i, what), want[i][what]);
            }
        }
        CHECK.of("P19: HIDDEN: no such ones");
        for (int i : new int[] {-1, 3, 60, LOWEST, HIGHEST}) {
            CHECK.due("log(" + i + ", 0)", x.log(i, 0), HIDDEN);
        }
        for (int what : new int[] {-1, 3, LOWEST, HIGHEST}) {
            CHECK.due("log(0, " + what + ")", x.log(0, what), HIDDEN);
        }
        for (int far : FAR) {
            CHECK.due("no HOUSE", new GongHouse().log(far, 0), HIDDEN);
        }
        CHECK.due("no HOUSE", new GongHouse().log(0, 0), HIDDEN);
    }

    private static void logOfSixty() {
        CHECK.of("==== 2: LOG (the latest 60)");
        GongHouse x = Check.house("sl0;d;d;d;d;d;gs20");
        Check.manyDays(x, 59);
        CHECK.due("59", x.count(11), 59);
        CHECK.due("the oldest", x.log(58, 0), 0);
        CHECK.due("none ahead of it", x.log(59, 0), HIDDEN);
        x.day();
        CHECK.due("60", x.count(11), 60);
        CHECK.due("the oldest is that of DAY 0", x.log(59, 2), 7);
        CHECK.due("none ahead of it", x.log(60, 0), HIDDEN);
        x.day();
        CHECK.due("60 still", x.count(11), 60);
        CHECK.due("the oldest is that of DAY 1", x.log(59, 2), 14);
        CHECK.due("none ahead of it", x.log(60, 0), HIDDEN);
        for (int i = 0; i < 60; i++) {
            CHECK.due("log(" + i + ", 0)", x.log(i, 0), (60 - i) % 5);
        }
    }

    private static void fedByADay() {
        CHECK.of("P11: A DAY: how many were FED");
        GongHouse x = Check.house("d;g;g;g;ga1;ga1;ga1");
        CHECK.due("none", x.day(), 0);
        CHECK.due("three of six", x.day(), 3);
        CHECK.due("six of six", x.day(), 6);
    }
}
